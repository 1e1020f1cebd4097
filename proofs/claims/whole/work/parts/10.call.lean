/-! contracts in short, and calls by them -/
def lq_no : lq_E := fun _ _ _ _ _ => False
def lq_pu (z : Nat) (S : lq_S) (M : lq_M) (N : lq_N) (v : Value) : lq_P := fun r z' S' M' N' => r = some v ∧ z' = z ∧ S' = S ∧ M' = M ∧ N' = N
def lq_mi (z : Nat) (S : lq_S) (N : lq_N) (P : Int32 → lq_M → Prop) : lq_P := fun r z' S' M' N' => z' = z ∧ S' = S ∧ N' = N ∧ ∃ x : Int32, r = some (.int x) ∧ P x M'
def lq_mv (z : Nat) (S : lq_S) (N : lq_N) (P : lq_M → Prop) : lq_P := fun r z' S' M' N' => z' = z ∧ S' = S ∧ N' = N ∧ r = none ∧ P M'
section LQ5
variable {G : lq_G} {Y : lq_Y} {d kc ks z : Nat} {S : lq_S} {M : lq_M} {N : lq_N} {Q : lq_P} {X : lq_E} {pc : Nat} {lv : List (Option Value)} {st : List Value}
variable {y : lq_Y} {d' n idx b ci : Nat} {fl : List (Option (Option Nat))}
theorem qw_cvp {v : Value} (As : List Value) {rest : List Value} (hM : LM G y d' 0 0 (.ref b :: As) z S M N (lq_pu z S M N v) lq_no) (hc : lq_cv Y.1.cls idx y n) (hd : decode Y.2.1 pc = .ok (.invokevirtual idx, 3)) (hS : S b = some (.inl (ci, fl))) (hcl : (lq_cl[ci]?).map (fun q => q.1) = some y.1.cls) (hn : As.length = n) (hst : st = As.reverse ++ .ref b :: rest) (hw : (rest.map fun v => v.category).sum ≤ 8) (hdd : d' + 1 ≤ d) (hm : y.2.2.1 ≤ 20) (hT : Y.2.2.2.2 = []) (k : LW G Y d kc ks Q X z S M N (pc + 3) lv (v :: rest)) : LW G Y d kc ks Q X z S M N pc lv st :=
  lq_callV hM hc hd hS hcl hn hst hw hdd hm (Nat.zero_le _) (Nat.zero_le _) hT (fun _ _ _ _ _ h => h.elim) (fun r z' S' M' N' h => by obtain ⟨rfl, rfl, rfl, rfl, rfl⟩ := h; exact k)
theorem qw_cvi {P : Int32 → lq_M → Prop} (As : List Value) {rest : List Value} (hM : LM G y d' 0 0 (.ref b :: As) z S M N (lq_mi z S N P) lq_no) (hc : lq_cv Y.1.cls idx y n) (hd : decode Y.2.1 pc = .ok (.invokevirtual idx, 3)) (hS : S b = some (.inl (ci, fl))) (hcl : (lq_cl[ci]?).map (fun q => q.1) = some y.1.cls) (hn : As.length = n) (hst : st = As.reverse ++ .ref b :: rest) (hw : (rest.map fun v => v.category).sum ≤ 8) (hdd : d' + 1 ≤ d) (hm : y.2.2.1 ≤ 20) (hT : Y.2.2.2.2 = []) (k : ∀ (x : Int32) (M' : lq_M), P x M' → LW G Y d kc ks Q X z S M' N (pc + 3) lv (.int x :: rest)) : LW G Y d kc ks Q X z S M N pc lv st :=
  lq_callV hM hc hd hS hcl hn hst hw hdd hm (Nat.zero_le _) (Nat.zero_le _) hT (fun _ _ _ _ _ h => h.elim) (fun r z' S' M' N' h => by obtain ⟨rfl, rfl, rfl, x, rfl, h9⟩ := h; exact k x M' h9)
theorem qw_cvv {P : lq_M → Prop} (As : List Value) {rest : List Value} (hM : LM G y d' 0 0 (.ref b :: As) z S M N (lq_mv z S N P) lq_no) (hc : lq_cv Y.1.cls idx y n) (hd : decode Y.2.1 pc = .ok (.invokevirtual idx, 3)) (hS : S b = some (.inl (ci, fl))) (hcl : (lq_cl[ci]?).map (fun q => q.1) = some y.1.cls) (hn : As.length = n) (hst : st = As.reverse ++ .ref b :: rest) (hw : (rest.map fun v => v.category).sum ≤ 8) (hdd : d' + 1 ≤ d) (hm : y.2.2.1 ≤ 20) (hT : Y.2.2.2.2 = []) (k : ∀ (M' : lq_M), P M' → LW G Y d kc ks Q X z S M' N (pc + 3) lv rest) : LW G Y d kc ks Q X z S M N pc lv st :=
  lq_callV hM hc hd hS hcl hn hst hw hdd hm (Nat.zero_le _) (Nat.zero_le _) hT (fun _ _ _ _ _ h => h.elim) (fun r z' S' M' N' h => by obtain ⟨rfl, rfl, rfl, rfl, h9⟩ := h; exact k M' h9)
theorem qw_csp {v : Value} (As : List Value) {rest : List Value} (hM : LM G y d' 0 0 As z S M N (lq_pu z S M N v) lq_no) (hc : lq_cs Y.1.cls idx y n) (hd : decode Y.2.1 pc = .ok (.invokestatic idx, 3)) (hn : As.length = n) (hst : st = As.reverse ++ rest) (hw : (rest.map fun v => v.category).sum ≤ 8) (hdd : d' + 1 ≤ d) (hm : y.2.2.1 ≤ 20) (hT : Y.2.2.2.2 = []) (k : LW G Y d kc ks Q X z S M N (pc + 3) lv (v :: rest)) : LW G Y d kc ks Q X z S M N pc lv st :=
  lq_callS hM hc hd hn hst hw hdd hm (Nat.zero_le _) (Nat.zero_le _) hT (fun _ _ _ _ _ h => h.elim) (fun r z' S' M' N' h => by obtain ⟨rfl, rfl, rfl, rfl, rfl⟩ := h; exact k)
theorem qw_csv {P : lq_M → Prop} (As : List Value) {rest : List Value} (hM : LM G y d' 0 0 As z S M N (lq_mv z S N P) lq_no) (hc : lq_cs Y.1.cls idx y n) (hd : decode Y.2.1 pc = .ok (.invokestatic idx, 3)) (hn : As.length = n) (hst : st = As.reverse ++ rest) (hw : (rest.map fun v => v.category).sum ≤ 8) (hdd : d' + 1 ≤ d) (hm : y.2.2.1 ≤ 20) (hT : Y.2.2.2.2 = []) (k : ∀ (M' : lq_M), P M' → LW G Y d kc ks Q X z S M' N (pc + 3) lv rest) : LW G Y d kc ks Q X z S M N pc lv st :=
  lq_callS hM hc hd hn hst hw hdd hm (Nat.zero_le _) (Nat.zero_le _) hT (fun _ _ _ _ _ h => h.elim) (fun r z' S' M' N' h => by obtain ⟨rfl, rfl, rfl, rfl, h9⟩ := h; exact k M' h9)
end LQ5
/-! shapes: what an object of a kind is made of, all at fixed places behind it -/
def sh_ia (S : lq_S) (a n : Nat) : Prop := S a = some (.inr (.inl (0, n)))
def sh6 (S : lq_S) (a cap : Nat) : Prop := S a = some (.inl (6, [some (some (a + 1)), some (some (a + 2)), some (some (a + 3)), some (some (a + 4)), none])) ∧ S (a + 1) = some (.inr (.inl (0, cap))) ∧ S (a + 2) = some (.inr (.inl (0, cap))) ∧ S (a + 3) = some (.inr (.inl (0, cap))) ∧ S (a + 4) = some (.inr (.inl (0, cap)))
def sh0 (S : lq_S) (a : Nat) : Prop := S a = some (.inl (0, [none, none, none, none, none, some (some (a + 1))])) ∧ sh6 S (a + 1) 8
def sh2 (S : lq_S) (a : Nat) : Prop := S a = some (.inl (2, [some (some (a + 1)), none, some (some (a + 2)), some (some (a + 3))])) ∧ S (a + 1) = some (.inr (.inl (0, 800))) ∧ S (a + 2) = some (.inr (.inl (0, 5))) ∧ S (a + 3) = some (.inr (.inl (0, 11)))
/-! bits and a few more rows -/
theorem q_or (a b : Nat) : nI a ||| nI b = nI (a ||| b) := by
  apply Int32.toBitVec_inj.mp
  apply BitVec.eq_of_toNat_eq
  have e : ∀ n : Nat, (nI n).toBitVec.toNat = n % 2 ^ 32 := fun n => by show (BitVec.ofNat 32 n).toNat = _; exact BitVec.toNat_ofNat n 32
  rw [Int32.toBitVec_or, BitVec.toNat_or, e, e, e, Nat.or_mod_two_pow]
theorem q_and (a b : Nat) : nI a &&& nI b = nI (a &&& b) := by
  apply Int32.toBitVec_inj.mp
  apply BitVec.eq_of_toNat_eq
  have e : ∀ n : Nat, (nI n).toBitVec.toNat = n % 2 ^ 32 := fun n => by show (BitVec.ofNat 32 n).toNat = _; exact BitVec.toNat_ofNat n 32
  rw [Int32.toBitVec_and, BitVec.toNat_and, e, e, e, Nat.and_mod_two_pow]
theorem q_sl : ∀ n, n < 32 → ((nI n &&& 31).toBitVec.smod 32).toNat = n := by decide +kernel
theorem q_shl {a s : Nat} (hs : s < 32) (h : a * 2 ^ s < 2 ^ 32) : nI a <<< (nI s &&& 31) = nI (a * 2 ^ s) := pk_shlN _ s (q_sl s hs) h
theorem q_shr {a s : Nat} (hs : s < 32) (h : a < 2 ^ 31) : nI a >>> (nI s &&& 31) = nI (a / 2 ^ s) := pk_shrN h _ s (q_sl s hs)
section LQ6
variable {G : lq_G} {Y : lq_Y} {d kc ks z : Nat} {S : lq_S} {M : lq_M} {N : lq_N} {Q : lq_P} {X : lq_E} {pc : Nat} {lv : List (Option Value)} {st : List Value}
theorem qw_orN {a b : Nat} (hd : decode Y.2.1 pc = .ok (.ior, 1)) (k : LW G Y d kc ks Q X z S M N (pc + 1) lv (.int (nI (a ||| b)) :: st)) : LW G Y d kc ks Q X z S M N pc lv (.int (nI b) :: .int (nI a) :: st) := qw_ior hd (by rw [q_or]; exact k)
theorem qw_andN {a b : Nat} (hd : decode Y.2.1 pc = .ok (.iand, 1)) (k : LW G Y d kc ks Q X z S M N (pc + 1) lv (.int (nI (a &&& b)) :: st)) : LW G Y d kc ks Q X z S M N pc lv (.int (nI b) :: .int (nI a) :: st) := qw_iand hd (by rw [q_and]; exact k)
theorem qw_shlN {a b : Nat} (hs : b < 32) (h : a * 2 ^ b < 2 ^ 32) (hd : decode Y.2.1 pc = .ok (.ishl, 1)) (k : LW G Y d kc ks Q X z S M N (pc + 1) lv (.int (nI (a * 2 ^ b)) :: st)) : LW G Y d kc ks Q X z S M N pc lv (.int (nI b) :: .int (nI a) :: st) := qw_ishl hd (by rw [q_shl hs h]; exact k)
theorem qw_shrN {a b : Nat} (hs : b < 32) (h : a < 2 ^ 31) (hd : decode Y.2.1 pc = .ok (.ishr, 1)) (k : LW G Y d kc ks Q X z S M N (pc + 1) lv (.int (nI (a / 2 ^ b)) :: st)) : LW G Y d kc ks Q X z S M N pc lv (.int (nI b) :: .int (nI a) :: st) := qw_ishr hd (by rw [q_shr hs h]; exact k)
theorem qw_divN {a b : Nat} (ha : a < 2 ^ 31) (h0 : 0 < b) (hb : b < 2 ^ 31) (hd : decode Y.2.1 pc = .ok (.idiv, 1)) (k : LW G Y d kc ks Q X z S M N (pc + 1) lv (.int (nI (a / b)) :: st)) : LW G Y d kc ks Q X z S M N pc lv (.int (nI b) :: .int (nI a) :: st) := qw_idiv hd (nI_ne0 h0 hb) (by rw [pk_div ha h0 hb]; exact k)
theorem qw_iincD {i : Nat} {a : Nat} {n : Int} (h1 : 1 ≤ a) (hd : decode Y.2.1 pc = .ok (.iinc i n, 3)) (h : lv[i]? = some (some (.int (nI a)))) (hv : Int32.ofInt n = -1) (hn : lq_nl lv i = true) (hm : i < Y.2.2.1) (k : LW G Y d kc ks Q X z S M N (pc + 3) (lv.set i (some (.int (nI (a - 1))))) st) : LW G Y d kc ks Q X z S M N pc lv st := qw_iinc (nI (a - 1)) hd h (by rw [hv]; obtain ⟨b, rfl⟩ : ∃ b, a = b + 1 := ⟨a - 1, by omega⟩; exact pk_m1 b) hn hm k
end LQ6
