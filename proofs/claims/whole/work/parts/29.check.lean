/-! the class's checks of what it is called with -/
def eIO : String := "java/lang/IndexOutOfBoundsException"
def eNS : String := "java/util/NoSuchElementException"
def eIA : String := "java/lang/IllegalArgumentException"
def eIS : String := "java/lang/IllegalStateException"
def q_ix (x : Int32) (n : Nat) : Prop := ∃ k, k < n ∧ x = nI k
def q_rg (x : Int32) (lo hi : Nat) : Prop := ∃ k, lo ≤ k ∧ k ≤ hi ∧ x = nI k
theorem q_toNat {x : Int32} (h : 0 ≤ x.toInt) : x = nI x.toInt.toNat := by
  have hb := Int32.toInt_lt x
  apply Int32.toInt_inj.mp
  rw [nI_toInt (by omega)]
  omega
theorem q_ix_i {x : Int32} {n : Nat} (hn : n < 2 ^ 31) : q_ix x n ↔ 0 ≤ x.toInt ∧ x.toInt < n := by
  constructor
  · rintro ⟨k, hk, e⟩
    rw [e, nI_toInt (by omega)]
    omega
  · rintro ⟨h0, h1⟩
    exact ⟨x.toInt.toNat, by omega, q_toNat h0⟩
theorem q_rg_i {x : Int32} {lo hi : Nat} (hn : hi < 2 ^ 31) : q_rg x lo hi ↔ (lo : Int) ≤ x.toInt ∧ x.toInt ≤ hi := by
  constructor
  · rintro ⟨k, h1, hk, e⟩
    rw [e, nI_toInt (by omega)]
    omega
  · rintro ⟨h0, h1⟩
    exact ⟨x.toInt.toNat, by omega, by omega, q_toNat (by omega)⟩
theorem q_lt_i {x : Int32} {n : Nat} (hn : n < 2 ^ 31) : x < nI n ↔ x.toInt < n := by rw [Int32.lt_iff_toInt_lt, nI_toInt hn]
theorem q_le_i {x : Int32} {n : Nat} (hn : n < 2 ^ 31) : x ≤ nI n ↔ x.toInt ≤ n := by rw [Int32.le_iff_toInt_le, nI_toInt hn]
theorem q_l0_i {x : Int32} : x < 0 ↔ x.toInt < 0 := by rw [Int32.lt_iff_toInt_lt]; rfl
def lq_ck (z : Nat) (S : lq_S) (M : lq_M) (N : lq_N) (V : Prop) : lq_P := fun r z' S' M' N' => r = none ∧ z' = z ∧ S' = S ∧ M' = M ∧ N' = N ∧ V
def lq_xs (S : lq_S) (M : lq_M) (N : lq_N) (P : String → Prop) : lq_E := fun E _ S' M' N' => S' = S ∧ M' = M ∧ N' = N ∧ P E
section CK0
variable {G : lq_G} {Y : lq_Y} {d kc ks z : Nat} {S : lq_S} {M : lq_M} {N : lq_N} {Q : lq_P} {X : lq_E} {pc : Nat} {lv : List (Option Value)} {st : List Value}
variable {y : lq_Y} {d' n idx b ci kc' ks' : Nat} {fl : List (Option (Option Nat))}
theorem qw_csx {V : Prop} {P : String → Prop} (As : List Value) {rest : List Value} (hM : LM G y d' kc' ks' As z S M N (lq_ck z S M N V) (lq_xs S M N P)) (hc : lq_cs Y.1.cls idx y n) (hd : decode Y.2.1 pc = .ok (.invokestatic idx, 3)) (hn : As.length = n) (hst : st = As.reverse ++ rest) (hw : (rest.map fun v => v.category).sum ≤ 8) (hdd : d' + 1 ≤ d) (hm : y.2.2.1 ≤ 20) (hT : Y.2.2.2.2 = []) (hk : kc' ≤ kc) (hk2 : ks' ≤ ks) (kx : ∀ E z', P E → X E z' S M N) (k : V → LW G Y d (kc - kc') (ks - ks') Q X z S M N (pc + 3) lv rest) : LW G Y d kc ks Q X z S M N pc lv st :=
  lq_callS hM hc hd hn hst hw hdd hm hk hk2 hT (fun E z' _ _ _ h => by obtain ⟨rfl, rfl, rfl, h9⟩ := h; exact kx E z' h9) (fun r z' S' M' N' h => by obtain ⟨rfl, rfl, rfl, rfl, rfl, h9⟩ := h; exact k h9)
end CK0
theorem tX0 : decode tRX 0 = .ok (.aload_n 0, 1) := by decide +kernel
theorem tX1 : decode tRX 1 = .ok (.aload_n 1, 1) := by decide +kernel
theorem tX2 : decode tRX 2 = .ok (.invokespecial 13, 3) := by decide +kernel
theorem tX5 : decode tRX 5 = .ok (.return_, 1) := by decide +kernel
section CK1
variable {G : lq_G} {z : Nat} {S : lq_S} {N : lq_N} {M : lq_M}
theorem k_X8_checkBreak {a : Nat} {f : Nat → Option Nat} {σ : Nat → Nat} (hS : sh4 S a f σ) {x : Int32} (hn : M a 1 < 2 ^ 31) : LM G YX8_checkBreak 0 1 6 [.ref a, .int x] z S M N (lq_ck z S M N (q_ix x (M a 1))) (lq_xs S M N (fun E => E = eIO ∧ ¬ q_ix x (M a 1))) := by
  refine LM.of (by decide) rfl [some (.ref a), some (.int x)] rfl (Nat.le_of_ble_eq_true rfl) ?_
  refine qw_iload_n 1 dX8_checkBreak_0 rfl rfl ?_
  refine qw_if_lt 12 dX8_checkBreak_1 (by decide) (fun c1 => ?_) (fun c1 => ?_)
  · exact qw_throwW (ci := 11)  5 rfl rfl tF_IOOBE tN (by decide) tK_IOOBE tI_IOOBE rfl tA_IOOBE tB_IOOBE dX8_checkBreak_12 dX8_checkBreak_15 dX8_checkBreak_16 dX8_checkBreak_19 dX8_checkBreak_22 (by decide) (by omega) (by omega) (fun z9 => ⟨rfl, rfl, rfl, rfl, fun q => by have q9 := (q_ix_i hn).mp q; have c9 := q_l0_i.mp c1; omega⟩)
  · refine qw_iload_n 1 dX8_checkBreak_4 rfl rfl ?_
    refine qw_aload_n 0 dX8_checkBreak_5 rfl rfl ?_
    refine qw_geti fX8_77 dX8_checkBreak_6 hS.1 rfl ?_
    refine qw_icmp_lt 23 dX8_checkBreak_9 (by decide) (fun c9 => ?_) (fun c9 => ?_)
    · exact qw_return rfl dX8_checkBreak_23 ⟨rfl, rfl, rfl, rfl, rfl, (q_ix_i hn).mpr ⟨by have c8 := mt q_l0_i.mpr c1; omega, (q_lt_i hn).mp c9⟩⟩
    · exact qw_throwW (ci := 11)  5 rfl rfl tF_IOOBE tN (by decide) tK_IOOBE tI_IOOBE rfl tA_IOOBE tB_IOOBE dX8_checkBreak_12 dX8_checkBreak_15 dX8_checkBreak_16 dX8_checkBreak_19 dX8_checkBreak_22 (by decide) (by omega) (by omega) (fun z9 => ⟨rfl, rfl, rfl, rfl, fun q => by have q9 := (q_ix_i hn).mp q; have c8 := mt (q_lt_i hn).mpr c9; omega⟩)
theorem k_X8_checkSponsor {a : Nat} {f : Nat → Option Nat} {σ : Nat → Nat} (hS : sh4 S a f σ) {x : Int32} (hn : M a 4 < 2 ^ 31) : LM G YX8_checkSponsor 0 1 6 [.ref a, .int x] z S M N (lq_ck z S M N (q_ix x (M a 4))) (lq_xs S M N (fun E => E = eIO ∧ ¬ q_ix x (M a 4))) := by
  refine LM.of (by decide) rfl [some (.ref a), some (.int x)] rfl (Nat.le_of_ble_eq_true rfl) ?_
  refine qw_iload_n 1 dX8_checkSponsor_0 rfl rfl ?_
  refine qw_if_lt 12 dX8_checkSponsor_1 (by decide) (fun c1 => ?_) (fun c1 => ?_)
  · exact qw_throwW (ci := 11)  6 rfl rfl tF_IOOBE tN (by decide) tK_IOOBE tI_IOOBE rfl tA_IOOBE tB_IOOBE dX8_checkSponsor_12 dX8_checkSponsor_15 dX8_checkSponsor_16 dX8_checkSponsor_19 dX8_checkSponsor_22 (by decide) (by omega) (by omega) (fun z9 => ⟨rfl, rfl, rfl, rfl, fun q => by have q9 := (q_ix_i hn).mp q; have c9 := q_l0_i.mp c1; omega⟩)
  · refine qw_iload_n 1 dX8_checkSponsor_4 rfl rfl ?_
    refine qw_aload_n 0 dX8_checkSponsor_5 rfl rfl ?_
    refine qw_geti fX8_83 dX8_checkSponsor_6 hS.1 rfl ?_
    refine qw_icmp_lt 23 dX8_checkSponsor_9 (by decide) (fun c9 => ?_) (fun c9 => ?_)
    · exact qw_return rfl dX8_checkSponsor_23 ⟨rfl, rfl, rfl, rfl, rfl, (q_ix_i hn).mpr ⟨by have c8 := mt q_l0_i.mpr c1; omega, (q_lt_i hn).mp c9⟩⟩
    · exact qw_throwW (ci := 11)  6 rfl rfl tF_IOOBE tN (by decide) tK_IOOBE tI_IOOBE rfl tA_IOOBE tB_IOOBE dX8_checkSponsor_12 dX8_checkSponsor_15 dX8_checkSponsor_16 dX8_checkSponsor_19 dX8_checkSponsor_22 (by decide) (by omega) (by omega) (fun z9 => ⟨rfl, rfl, rfl, rfl, fun q => by have q9 := (q_ix_i hn).mp q; have c8 := mt (q_lt_i hn).mpr c9; omega⟩)
theorem k_X8_checkPlace {a cap : Nat} (hS : sh6 S a cap) {x : Int32} (hn : M a 4 < 2 ^ 31) : LM G YX8_checkPlace 0 1 6 [.ref a, .int x] z S M N (lq_ck z S M N (q_ix x (M a 4))) (lq_xs S M N (fun E => E = eNS ∧ ¬ q_ix x (M a 4))) := by
  refine LM.of (by decide) rfl [some (.ref a), some (.int x)] rfl (Nat.le_of_ble_eq_true rfl) ?_
  refine qw_iload_n 1 dX8_checkPlace_0 rfl rfl ?_
  refine qw_if_lt 12 dX8_checkPlace_1 (by decide) (fun c1 => ?_) (fun c1 => ?_)
  · exact qw_throwX (ci := 12) tX0 tX1 tX2 tX5 7 rfl rfl tF_NSEE tN (by decide) tK_NSEE tI_NSEE rfl tA_NSEE tB_NSEE dX8_checkPlace_12 dX8_checkPlace_15 dX8_checkPlace_16 dX8_checkPlace_19 dX8_checkPlace_22 (by decide) (by omega) (by omega) (fun z9 => ⟨rfl, rfl, rfl, rfl, fun q => by have q9 := (q_ix_i hn).mp q; have c9 := q_l0_i.mp c1; omega⟩)
  · refine qw_iload_n 1 dX8_checkPlace_4 rfl rfl ?_
    refine qw_aload_n 0 dX8_checkPlace_5 rfl rfl ?_
    refine qw_geti fX8_118 dX8_checkPlace_6 hS.1 rfl ?_
    refine qw_icmp_lt 23 dX8_checkPlace_9 (by decide) (fun c9 => ?_) (fun c9 => ?_)
    · exact qw_return rfl dX8_checkPlace_23 ⟨rfl, rfl, rfl, rfl, rfl, (q_ix_i hn).mpr ⟨by have c8 := mt q_l0_i.mpr c1; omega, (q_lt_i hn).mp c9⟩⟩
    · exact qw_throwX (ci := 12) tX0 tX1 tX2 tX5 7 rfl rfl tF_NSEE tN (by decide) tK_NSEE tI_NSEE rfl tA_NSEE tB_NSEE dX8_checkPlace_12 dX8_checkPlace_15 dX8_checkPlace_16 dX8_checkPlace_19 dX8_checkPlace_22 (by decide) (by omega) (by omega) (fun z9 => ⟨rfl, rfl, rfl, rfl, fun q => by have q9 := (q_ix_i hn).mp q; have c8 := mt (q_lt_i hn).mpr c9; omega⟩)
theorem k_X8_checkRange {x : Int32} {lo hi : Nat} (hl : lo < 2 ^ 31) (hh : hi < 2 ^ 31) : LM G YX8_checkRange 0 1 6 [.int x, .int (nI lo), .int (nI hi)] z S M N (lq_ck z S M N (q_rg x lo hi)) (lq_xs S M N (fun E => E = eIA ∧ ¬ q_rg x lo hi)) := by
  refine LM.of (by decide) rfl [some (.int x), some (.int (nI lo)), some (.int (nI hi))] rfl (Nat.le_of_ble_eq_true rfl) ?_
  refine qw_iload_n 0 dX8_checkRange_0 rfl rfl ?_
  refine qw_iload_n 1 dX8_checkRange_1 rfl rfl ?_
  refine qw_icmp_lt 10 dX8_checkRange_2 (by decide) (fun c2 => ?_) (fun c2 => ?_)
  · exact qw_throwW (ci := 10)  8 rfl rfl tF_IAE tN (by decide) tK_IAE tI_IAE rfl tA_IAE tB_IAE dX8_checkRange_10 dX8_checkRange_13 dX8_checkRange_14 dX8_checkRange_17 dX8_checkRange_20 (by decide) (by omega) (by omega) (fun z9 => ⟨rfl, rfl, rfl, rfl, fun q => by have q9 := (q_rg_i hh).mp q; have c9 := (q_lt_i hl).mp c2; omega⟩)
  · refine qw_iload_n 0 dX8_checkRange_5 rfl rfl ?_
    refine qw_iload_n 2 dX8_checkRange_6 rfl rfl ?_
    refine qw_icmp_le 21 dX8_checkRange_7 (by decide) (fun c7 => ?_) (fun c7 => ?_)
    · exact qw_return rfl dX8_checkRange_21 ⟨rfl, rfl, rfl, rfl, rfl, (q_rg_i hh).mpr ⟨by have c8 := mt (q_lt_i hl).mpr c2; omega, (q_le_i hh).mp c7⟩⟩
    · exact qw_throwW (ci := 10)  8 rfl rfl tF_IAE tN (by decide) tK_IAE tI_IAE rfl tA_IAE tB_IAE dX8_checkRange_10 dX8_checkRange_13 dX8_checkRange_14 dX8_checkRange_17 dX8_checkRange_20 (by decide) (by omega) (by omega) (fun z9 => ⟨rfl, rfl, rfl, rfl, fun q => by have q9 := (q_rg_i hh).mp q; have c8 := mt (q_le_i hh).mpr c7; omega⟩)
theorem k_X8_checkSet {a : Nat} {f : Nat → Option Nat} {σ : Nat → Nat} (hS : sh4 S a f σ) {x : Int32} (h8 : M a 4 ≤ 8) : LM G YX8_checkSet 1 1 6 [.ref a, .int x] z S M N (lq_ck z S M N (q_ix x (2 ^ M a 4))) (lq_xs S M N (fun E => E = eIA ∧ ¬ q_ix x (2 ^ M a 4))) := by
  have hp : 1 ≤ 2 ^ M a 4 := Nat.one_le_two_pow
  have hp2 : 2 ^ M a 4 ≤ 256 := Nat.pow_le_pow_right (n := 2) (by decide) h8
  have hiff : q_rg x 0 (2 ^ M a 4 - 1) ↔ q_ix x (2 ^ M a 4) := by
    rw [q_rg_i (by omega), q_ix_i (by omega)]
    omega
  refine LM.of (by decide) rfl [some (.ref a), some (.int x)] rfl (Nat.le_of_ble_eq_true rfl) ?_
  refine qw_iload_n 1 dX8_checkSet_0 rfl rfl ?_
  refine qw_iconst (nI 0) dX8_checkSet_1 (by decide) ?_
  refine qw_iconst (nI 1) dX8_checkSet_2 (by decide) ?_
  refine qw_aload_n 0 dX8_checkSet_3 rfl rfl ?_
  refine qw_geti fX8_83 dX8_checkSet_4 hS.1 rfl ?_
  refine qw_shlN (by omega) (by omega) dX8_checkSet_7 ?_
  rw [Nat.one_mul]
  refine qw_iconst (nI 1) dX8_checkSet_8 (by decide) ?_
  refine qw_subN (by omega) dX8_checkSet_9 ?_
  refine qw_csx [_, _, _] (k_X8_checkRange (by decide) (by omega)) mX8_90 dX8_checkSet_10 rfl rfl (Nat.le_of_ble_eq_true rfl) (by omega) (by decide) rfl (by omega) (by omega) (fun E z9 h9 => ⟨rfl, rfl, rfl, h9.1, mt hiff.mpr h9.2⟩) (fun hv => ?_)
  exact qw_return rfl dX8_checkSet_13 ⟨rfl, rfl, rfl, rfl, rfl, hiff.mp hv⟩
def q_sin (M : lq_M) (a : Nat) (s l i : Int32) : Prop := q_ix s (M a 4) ∧ q_ix i (M a 1) ∧ q_rg l 5 60
def q_sinX (M : lq_M) (a : Nat) (s l i : Int32) (E : String) : Prop := (E = eIO ∧ ¬ (q_ix s (M a 4) ∧ q_ix i (M a 1))) ∨ (E = eIA ∧ q_ix s (M a 4) ∧ q_ix i (M a 1) ∧ ¬ q_rg l 5 60)
theorem k_X8_checkSpotIn {a : Nat} {f : Nat → Option Nat} {σ : Nat → Nat} (hS : sh4 S a f σ) {s l i : Int32} (h4 : M a 4 < 2 ^ 31) (h1 : M a 1 < 2 ^ 31) : LM G YX8_checkSpotIn 1 3 18 [.ref a, .int s, .int l, .int i] z S M N (lq_ck z S M N (q_sin M a s l i)) (lq_xs S M N (q_sinX M a s l i)) := by
  refine LM.of (by decide) rfl [some (.ref a), some (.int s), some (.int l), some (.int i)] rfl (Nat.le_of_ble_eq_true rfl) ?_
  refine qw_aload_n 0 dX8_checkSpotIn_0 rfl rfl ?_
  refine qw_iload_n 1 dX8_checkSpotIn_1 rfl rfl ?_
  refine qw_csx [_, _] (k_X8_checkSponsor hS h4) mX8_135 dX8_checkSpotIn_2 rfl rfl (Nat.le_of_ble_eq_true rfl) (by omega) (by decide) rfl (by omega) (by omega) (fun E z9 h9 => ⟨rfl, rfl, rfl, Or.inl ⟨h9.1, fun q => h9.2 q.1⟩⟩) (fun v1 => ?_)
  refine qw_aload_n 0 dX8_checkSpotIn_5 rfl rfl ?_
  refine qw_iload_n 3 dX8_checkSpotIn_6 rfl rfl ?_
  refine qw_csx [_, _] (k_X8_checkBreak hS h1) mX8_86 dX8_checkSpotIn_7 rfl rfl (Nat.le_of_ble_eq_true rfl) (by omega) (by decide) rfl (by omega) (by omega) (fun E z9 h9 => ⟨rfl, rfl, rfl, Or.inl ⟨h9.1, fun q => h9.2 q.2⟩⟩) (fun v2 => ?_)
  refine qw_iload_n 2 dX8_checkSpotIn_10 rfl rfl ?_
  refine qw_iconst (nI 5) dX8_checkSpotIn_11 (by decide) ?_
  refine qw_bipush (nI 60) dX8_checkSpotIn_12 (by decide) ?_
  refine qw_csx [_, _, _] (k_X8_checkRange (by decide) (by decide)) mX8_90 dX8_checkSpotIn_14 rfl rfl (Nat.le_of_ble_eq_true rfl) (by omega) (by decide) rfl (by omega) (by omega) (fun E z9 h9 => ⟨rfl, rfl, rfl, Or.inr ⟨h9.1, v1, v2, h9.2⟩⟩) (fun v3 => ?_)
  exact qw_return rfl dX8_checkSpotIn_17 ⟨rfl, rfl, rfl, rfl, rfl, v1, v2, v3⟩
end CK1
