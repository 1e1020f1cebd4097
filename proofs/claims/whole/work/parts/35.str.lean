/-! string constants: length() and charAt(), walked in the JDK's own code -/
theorem mJ0_335 : lq_cv RJ0 335 YJ0_coder_7d493 0 := ⟨⟨lq_in (by decide +kernel) (by decide +kernel), lq_in (by decide +kernel) (by decide +kernel), lq_in (by decide +kernel) (by decide +kernel), by decide +kernel, by decide +kernel, by decide +kernel⟩, lq_in (by decide +kernel) (by decide +kernel), lq_in (by decide +kernel) (by decide +kernel)⟩
theorem mJ0_492 : lq_cv RJ0 492 YJ0_isLatin1_aae02 0 := ⟨⟨lq_in (by decide +kernel) (by decide +kernel), lq_in (by decide +kernel) (by decide +kernel), lq_in (by decide +kernel) (by decide +kernel), by decide +kernel, by decide +kernel, by decide +kernel⟩, lq_in (by decide +kernel) (by decide +kernel), lq_in (by decide +kernel) (by decide +kernel)⟩
theorem mJ0_495 : lq_cs RJ0 495 YJ1_charAt_3b067 2 := ⟨⟨lq_in (by decide +kernel) (by decide +kernel), lq_in (by decide +kernel) (by decide +kernel), lq_in (by decide +kernel) (by decide +kernel), by decide +kernel, by decide +kernel, by decide +kernel⟩, lq_in (by decide +kernel) (by decide +kernel)⟩
theorem mJ1_9 : lq_cs RJ1 9 YJ0_checkIndex_df160 2 := ⟨⟨lq_in (by decide +kernel) (by decide +kernel), lq_in (by decide +kernel) (by decide +kernel), lq_in (by decide +kernel) (by decide +kernel), by decide +kernel, by decide +kernel, by decide +kernel⟩, lq_in (by decide +kernel) (by decide +kernel)⟩
theorem mJ0_1059 : lq_cs RJ0 1059 YJ3_checkIndex_8e157 3 := ⟨⟨lq_in (by decide +kernel) (by decide +kernel), lq_in (by decide +kernel) (by decide +kernel), lq_in (by decide +kernel) (by decide +kernel), by decide +kernel, by decide +kernel, by decide +kernel⟩, lq_in (by decide +kernel) (by decide +kernel)⟩
theorem fJ0_9 : Cond.fieldLink RJ0 9 "java/lang/String" "value" "[B" ∈ lq_W := lq_in (by decide +kernel) (by decide +kernel)
theorem fJ0_15 : Cond.fieldLink RJ0 15 "java/lang/String" "coder" "B" ∈ lq_W := lq_in (by decide +kernel) (by decide +kernel)
theorem fJ0_38 : Cond.fieldLink RJ0 38 "java/lang/String" "COMPACT_STRINGS" "Z" ∈ lq_W := lq_in (by decide +kernel) (by decide +kernel)
theorem fJ0_1053 : Cond.fieldLink RJ0 1053 "jdk/internal/util/Preconditions" "SIOOBE_FORMATTER" "Ljava/util/function/BiFunction;" ∈ lq_W := lq_in (by decide +kernel) (by decide +kernel)
/-- what the launch's statics hold -/
def lq_sx (G : lq_G) (v : Value) : Prop := va_Z "java/lang/String" "COMPACT_STRINGS" "Z" (.int 1) (fun q => lq_b G ≤ q) (lq_u G) (lq_u G).heap ∧ va_Z "jdk/internal/util/Preconditions" "SIOOBE_FORMATTER" "Ljava/util/function/BiFunction;" v (fun q => lq_b G ≤ q) (lq_u G) (lq_u G).heap ∧ v.category = 1
def q_sb (i j : Nat) : Int32 := (lq_bys.getD i []).getD j 0
section LQS
variable {G : lq_G} {Y : lq_Y} {d kc ks z : Nat} {S : lq_S} {M : lq_M} {N : lq_N} {Q : lq_P} {X : lq_E} {pc : Nat} {lv : List (Option Value)} {st : List Value}
theorem lq_cx_agr {p : Program} {R : Room} {s : State} {m : MethodId} {args : Array Value} {meth : Method} {c : Code} {H : Heap} {locs : List Loc} {cells slots : Nat} {ls : Array Slot} (C : lq_cx G Y d kc ks z S M N lv p R s m args meth c H locs cells slots ls) : ∀ a : Nat, a < (lq_u G).heap.size → ¬ lq_b G ≤ a → s.heap[a]? = (lq_u G).heap[a]? := fun a h1 h2 => by
  rw [← C.2.2.2.1.1.2.2.1 a (Nat.not_le.mp h2)]
  exact (C.2.2.2.1.2.2.1 a (Nat.lt_of_lt_of_le (Nat.not_le.mp h2) C.2.2.1.2) h2).symm
theorem qw_sval {i idx : Nat} (hi : i < 29) (hw : Cond.fieldLink Y.1.cls idx "java/lang/String" "value" "[B" ∈ lq_W) (hd : decode Y.2.1 pc = .ok (.getfield idx, 3)) (k : LW G Y d kc ks Q X z S M N (pc + 3) lv (.ref (lq_v G i) :: st)) : LW G Y d kc ks Q X z S M N pc lv (.ref (lq_k G i) :: st) := by
  intro p e R s m args below meth c H locs cells slots ls C
  exact vk_getf C.1.1 C.1.2.1 (va_OF.moved C.2.2.1.1.2.1 (((C.2.2.1.1.2.2.1).2.2.2 i hi).2.2.1.kept (lq_cx_agr C))) C.2.2.2.1.2 C.1.2.2.2.1 (C.1.2.2.2.2 _ hw) (fun x h => h) hd (k p e R s m args below meth c H locs cells slots ls C)
theorem qw_scod {i idx : Nat} (hi : i < 29) (hw : Cond.fieldLink Y.1.cls idx "java/lang/String" "coder" "B" ∈ lq_W) (hd : decode Y.2.1 pc = .ok (.getfield idx, 3)) (k : LW G Y d kc ks Q X z S M N (pc + 3) lv (.int (nI 0) :: st)) : LW G Y d kc ks Q X z S M N pc lv (.ref (lq_k G i) :: st) := by
  intro p e R s m args below meth c H locs cells slots ls C
  exact vk_getf C.1.1 C.1.2.1 (va_OF.moved C.2.2.1.1.2.1 (((C.2.2.1.1.2.2.1).2.2.2 i hi).2.1.kept (lq_cx_agr C))) C.2.2.2.1.2 C.1.2.2.2.1 (C.1.2.2.2.2 _ hw) (fun x h => h) hd (k p e R s m args below meth c H locs cells slots ls C)
theorem qw_slen {i : Nat} (hi : i < 29) (hd : decode Y.2.1 pc = .ok (.arraylength, 1)) (k : LW G Y d kc ks Q X z S M N (pc + 1) lv (.int (nI (lq_len.getD i 0)) :: st)) : LW G Y d kc ks Q X z S M N pc lv (.ref (lq_v G i) :: st) := by
  intro p e R s m args below meth c H locs cells slots ls C
  exact va_tlen C.1.1 C.1.2.1 (va_T.moved C.2.2.1.1.2.1 (((C.2.2.1.1.2.2.1).2.2.2 i hi).2.2.2.kept (lq_cx_agr C))) C.2.2.2.1.2 rfl hd (k p e R s m args below meth c H locs cells slots ls C)
theorem lq_len_lt : ∀ i, i < 29 → lq_len.getD i 0 < 40 := by decide
theorem qw_sbl {i j : Nat} (hi : i < 29) (hj : j < lq_len.getD i 0) (hd : decode Y.2.1 pc = .ok (.baload, 1)) (k : LW G Y d kc ks Q X z S M N (pc + 1) lv (.int (q_sb i j) :: st)) : LW G Y d kc ks Q X z S M N pc lv (.int (nI j) :: .ref (lq_v G i) :: st) := by
  intro p e R s m args below meth c H locs cells slots ls C
  have h40 := lq_len_lt i hi
  exact va_tb C.1.1 C.1.2.1 (va_T.moved C.2.2.1.1.2.1 (((C.2.2.1.1.2.2.1).2.2.2 i hi).2.2.2.kept (lq_cx_agr C))) C.2.2.2.1.2 (vp_in_nI hj (by omega)) (by rw [nI_clamp (by omega)]; rfl) hd (k p e R s m args below meth c H locs cells slots ls C)
theorem qw_scs {idx : Nat} {v : Value} (hX : lq_sx G v) (hw : Cond.fieldLink Y.1.cls idx "java/lang/String" "COMPACT_STRINGS" "Z" ∈ lq_W) (hd : decode Y.2.1 pc = .ok (.getstatic idx, 3)) (k : LW G Y d kc ks Q X z S M N (pc + 3) lv (.int (nI 1) :: st)) : LW G Y d kc ks Q X z S M N pc lv st := by
  intro p e R s m args below meth c H locs cells slots ls C
  exact va_gets C.1.1 C.1.2.1 (va_Z.moved C.2.2.1.1.2.1 (hX.1.kept (lq_cx_agr C))) C.2.2.2.1.2 C.1.2.2.2.1 (C.1.2.2.2.2 _ hw) (fun x h => h) hd (k p e R s m args below meth c H locs cells slots ls C)
theorem qw_sfm {idx : Nat} {v : Value} (hX : lq_sx G v) (hw : Cond.fieldLink Y.1.cls idx "jdk/internal/util/Preconditions" "SIOOBE_FORMATTER" "Ljava/util/function/BiFunction;" ∈ lq_W) (hd : decode Y.2.1 pc = .ok (.getstatic idx, 3)) (k : LW G Y d kc ks Q X z S M N (pc + 3) lv (v :: st)) : LW G Y d kc ks Q X z S M N pc lv st := by
  intro p e R s m args below meth c H locs cells slots ls C
  exact va_gets C.1.1 C.1.2.1 (va_Z.moved C.2.2.1.1.2.1 (hX.2.1.kept (lq_cx_agr C))) C.2.2.2.1.2 C.1.2.2.2.1 (C.1.2.2.2.2 _ hw) (fun x h => h) hd (k p e R s m args below meth c H locs cells slots ls C)
theorem qw_cvS {y : lq_Y} {d' n idx i : Nat} {v : Value} (hi : i < 29) (As : List Value) {rest : List Value} (hM : LM G y d' 0 0 (.ref (lq_k G i) :: As) z S M N (lq_pu z S M N v) lq_no) (hc : lq_cv Y.1.cls idx y n) (hd : decode Y.2.1 pc = .ok (.invokevirtual idx, 3)) (hcl : y.1.cls = "java/lang/String") (hn : As.length = n) (hst : st = As.reverse ++ .ref (lq_k G i) :: rest) (hw : (rest.map fun v => v.category).sum ≤ 8) (hdd : d' + 1 ≤ d) (hm : y.2.2.1 ≤ 20) (hT : Y.2.2.2.2 = []) (k : LW G Y d kc ks Q X z S M N (pc + 3) lv (v :: rest)) : LW G Y d kc ks Q X z S M N pc lv st := by
  intro p e R s m args below meth c H locs cells slots ls C
  have cw : CallW R s args Y.1.cls y.1.cls idx y.1 y.2.1 y.2.2.1 y.2.2.2.1 (.code y.1 y.2.1 y.2.2.1 y.2.2.2.1 :: lq_W) (lq_room d' 0 0) 0 0 n := ⟨lq_callB hc.1 C.1.2.2.2.2 hdd hm C.2.2.2.2.1.2.2, C.1.2.2.2.2 _ hc.2.1, C.1.2.2.2.2 _ hc.2.2⟩
  have hO : va_O "java/lang/String" (lq_k G i) (fun q => lq_b G ≤ q) s H := (va_O.moved C.2.2.1.1.2.1 (((C.2.2.1.1.2.2.1).2.2.2 i hi).1.kept (lq_cx_agr C))).kept C.2.2.2.1.2.2.1
  obtain ⟨cell, q1, q2, q3, q4⟩ := hO
  have hp : PreV s H y.1.cls (lq_k G i) (fun v U => v = (Value.ref (lq_k G i) :: As).toArray ∧ lq_K G U ∧ lq_H G U.heap z S M N) As := ⟨fun a U g mk h => ⟨h.1, h.2.1.calling, h.2.2⟩, ⟨cell, q1, q2, by rw [hcl]; exact q3⟩, fun U hU hW => ⟨rfl, C.2.2.1.1.moved hW, by rw [hU]; exact C.2.2.2.1.1⟩⟩
  refine lq_back hT (Nat.zero_le kc) (Nat.zero_le ks) C (vx_runV (g := F0 m pc ls st) C.1 hM cw hp rfl hn C.2.2.2.2.2.1 hst ?_ hd ⟨by have := C.2.2.2.2.1.1; omega, by have := C.2.2.2.2.1.2.1; omega⟩) (fun _ _ _ _ _ h => h.elim) (fun r z' S' M' N' h => by obtain ⟨rfl, rfl, rfl, rfl, rfl⟩ := h; exact k)
  show 2 * 0 + (rest.map fun v => v.category).sum ≤ 8
  omega
end LQS
section LQS2
variable {G : lq_G} {z : Nat} {S : lq_S} {M : lq_M} {N : lq_N} {i : Nat} {v : Value}
theorem k_J0_coder (hX : lq_sx G v) (hi : i < 29) : LM G YJ0_coder_7d493 0 0 0 [.ref (lq_k G i)] z S M N (lq_pu z S M N (.int (nI 0))) lq_no := by
  refine LM.of (by decide) rfl [some (.ref (lq_k G i))] rfl (Nat.le_of_ble_eq_true rfl) ?_
  refine qw_scs hX fJ0_38 dJ0_coder_7d493_0 ?_
  refine qw_if_eqN 13 dJ0_coder_7d493_3 (by decide) (by decide) (fun c => absurd c (by decide)) (fun _ => ?_)
  refine qw_aload_n 0 dJ0_coder_7d493_6 rfl rfl ?_
  refine qw_scod hi fJ0_15 dJ0_coder_7d493_7 ?_
  refine qw_goto 14 dJ0_coder_7d493_10 (by decide) ?_
  exact qw_ireturn rfl (by decide) dJ0_coder_7d493_14 ⟨rfl, rfl, rfl, rfl, rfl⟩
theorem k_J0_isLatin1 (hX : lq_sx G v) (hi : i < 29) : LM G YJ0_isLatin1_aae02 0 0 0 [.ref (lq_k G i)] z S M N (lq_pu z S M N (.int (nI 1))) lq_no := by
  refine LM.of (by decide) rfl [some (.ref (lq_k G i))] rfl (Nat.le_of_ble_eq_true rfl) ?_
  refine qw_scs hX fJ0_38 dJ0_isLatin1_aae02_0 ?_
  refine qw_if_eqN 17 dJ0_isLatin1_aae02_3 (by decide) (by decide) (fun c => absurd c (by decide)) (fun _ => ?_)
  refine qw_aload_n 0 dJ0_isLatin1_aae02_6 rfl rfl ?_
  refine qw_scod hi fJ0_15 dJ0_isLatin1_aae02_7 ?_
  refine qw_if_neN 17 dJ0_isLatin1_aae02_10 (by decide) (by decide) (fun c => absurd rfl c) (fun _ => ?_)
  refine qw_iconst (nI 1) dJ0_isLatin1_aae02_13 (by decide) ?_
  refine qw_goto 18 dJ0_isLatin1_aae02_14 (by decide) ?_
  exact qw_ireturn rfl (by decide) dJ0_isLatin1_aae02_18 ⟨rfl, rfl, rfl, rfl, rfl⟩
theorem k_J0_length (hX : lq_sx G v) (hi : i < 29) : LM G YJ0_length_8abf5 1 0 0 [.ref (lq_k G i)] z S M N (lq_pu z S M N (.int (nI (lq_len.getD i 0)))) lq_no := by
  have h40 := lq_len_lt i hi
  refine LM.of (by decide) rfl [some (.ref (lq_k G i))] rfl (Nat.le_of_ble_eq_true rfl) ?_
  refine qw_aload_n 0 dJ0_length_8abf5_0 rfl rfl ?_
  refine qw_sval hi fJ0_9 dJ0_length_8abf5_1 ?_
  refine qw_slen hi dJ0_length_8abf5_4 ?_
  refine qw_aload_n 0 dJ0_length_8abf5_5 rfl rfl ?_
  refine qw_cvS hi [] (k_J0_coder hX hi) mJ0_335 dJ0_length_8abf5_6 rfl rfl rfl (Nat.le_of_ble_eq_true rfl) (by omega) (by decide) rfl ?_
  refine qw_shrN (by decide) (by omega) dJ0_length_8abf5_9 ?_
  rw [Nat.pow_zero, Nat.div_one]
  exact qw_ireturn rfl rfl dJ0_length_8abf5_10 ⟨rfl, rfl, rfl, rfl, rfl⟩
theorem k_J3_checkIndex (hv : v.category = 1) {j n : Nat} (hj : j < n) (hn : n < 2 ^ 31) : LM G YJ3_checkIndex_8e157 0 0 0 [.int (nI j), .int (nI n), v] z S M N (lq_pu z S M N (.int (nI j))) lq_no := by
  refine LM.of (by decide) rfl [some (.int (nI j)), some (.int (nI n)), some v] rfl ?_ ?_
  · cases v <;> first | exact Nat.le_of_ble_eq_true rfl | exact absurd hv (by simp [Value.category])
  refine qw_iload_n 0 dJ3_checkIndex_8e157_0 rfl rfl ?_
  refine qw_if_ltN 9 dJ3_checkIndex_8e157_1 (by decide) (by omega) ?_
  refine qw_iload_n 0 dJ3_checkIndex_8e157_4 rfl rfl ?_
  refine qw_iload_n 1 dJ3_checkIndex_8e157_5 rfl rfl ?_
  refine qw_icmp_ltN 16 dJ3_checkIndex_8e157_6 (by decide) (by omega) (by omega) (fun c6 => ?_) (fun c6 => absurd hj (by omega))
  refine qw_iload_n 0 dJ3_checkIndex_8e157_16 rfl rfl ?_
  exact qw_ireturn rfl rfl dJ3_checkIndex_8e157_17 ⟨rfl, rfl, rfl, rfl, rfl⟩
theorem k_J0_checkIndex (hX : lq_sx G v) {j n : Nat} (hj : j < n) (hn : n < 2 ^ 31) : LM G YJ0_checkIndex_df160 1 0 0 [.int (nI j), .int (nI n)] z S M N (lq_mv z S N (fun M1 => M1 = M)) lq_no := by
  refine LM.of (by decide) rfl [some (.int (nI j)), some (.int (nI n))] rfl (Nat.le_of_ble_eq_true rfl) ?_
  refine qw_iload_n 0 dJ0_checkIndex_df160_0 rfl rfl ?_
  refine qw_iload_n 1 dJ0_checkIndex_df160_1 rfl rfl ?_
  refine qw_sfm hX fJ0_1053 dJ0_checkIndex_df160_2 ?_
  refine qw_csp [_, _, _] (k_J3_checkIndex hX.2.2 hj hn) mJ0_1059 dJ0_checkIndex_df160_5 rfl rfl (Nat.le_of_ble_eq_true rfl) (by omega) (by decide) rfl ?_
  refine qw_pop dJ0_checkIndex_df160_8 rfl ?_
  exact qw_return rfl dJ0_checkIndex_df160_9 ⟨rfl, rfl, rfl, rfl, rfl⟩
theorem k_J1_charAt (hX : lq_sx G v) (hi : i < 29) {j : Nat} (hj : j < lq_len.getD i 0) (h2 : ((q_sb i j &&& 255).toUInt32 % 65536).toInt32 = q_sb i j) (hr : narrow .char (.int (q_sb i j)) = .int (q_sb i j)) : LM G YJ1_charAt_3b067 2 0 0 [.ref (lq_v G i), .int (nI j)] z S M N (lq_pu z S M N (.int (q_sb i j))) lq_no := by
  have h40 := lq_len_lt i hi
  refine LM.of (by decide) rfl [some (.ref (lq_v G i)), some (.int (nI j))] rfl (Nat.le_of_ble_eq_true rfl) ?_
  refine qw_iload_n 1 dJ1_charAt_3b067_0 rfl rfl ?_
  refine qw_aload_n 0 dJ1_charAt_3b067_1 rfl rfl ?_
  refine qw_slen hi dJ1_charAt_3b067_2 ?_
  refine qw_csv [_, _] (k_J0_checkIndex hX hj (by omega)) mJ1_9 dJ1_charAt_3b067_3 rfl rfl (Nat.le_of_ble_eq_true rfl) (by omega) (by decide) rfl (fun M1 h1 => ?_)
  subst h1
  refine qw_aload_n 0 dJ1_charAt_3b067_6 rfl rfl ?_
  refine qw_iload_n 1 dJ1_charAt_3b067_7 rfl rfl ?_
  refine qw_sbl hi hj dJ1_charAt_3b067_8 ?_
  refine qw_sipush 255 dJ1_charAt_3b067_9 (by decide) ?_
  refine qw_iand dJ1_charAt_3b067_12 ?_
  refine qw_i2c (q_sb i j) dJ1_charAt_3b067_13 h2 ?_
  exact qw_ireturn rfl hr dJ1_charAt_3b067_14 ⟨rfl, rfl, rfl, rfl, rfl⟩
/-- the char at j of the literal i, as a number -/
def q_ch (i j : Nat) : Nat := q_u (q_sb i j)
theorem q_ch_all : ∀ i : Fin 29, ∀ j : Fin 40, j.1 < lq_len.getD i.1 0 → ((q_sb i.1 j.1 &&& 255).toUInt32 % 65536).toInt32 = q_sb i.1 j.1 ∧ narrow .char (.int (q_sb i.1 j.1)) = .int (q_sb i.1 j.1) ∧ q_ch i.1 j.1 < 128 := by decide +kernel
theorem k_J0_charAt (hX : lq_sx G v) (hi : i < 29) {j : Nat} (hj : j < lq_len.getD i 0) : LM G YJ0_charAt_5068e 3 0 0 [.ref (lq_k G i), .int (nI j)] z S M N (lq_pu z S M N (.int (nI (q_ch i j)))) lq_no := by
  have h40 := lq_len_lt i hi
  have hc := q_ch_all ⟨i, hi⟩ ⟨j, by omega⟩ hj
  refine LM.of (by decide) rfl [some (.ref (lq_k G i)), some (.int (nI j))] rfl (Nat.le_of_ble_eq_true rfl) ?_
  refine qw_aload_n 0 dJ0_charAt_5068e_0 rfl rfl ?_
  refine qw_cvS hi [] (k_J0_isLatin1 hX hi) mJ0_492 dJ0_charAt_5068e_1 rfl rfl rfl (Nat.le_of_ble_eq_true rfl) (by omega) (by decide) rfl ?_
  refine qw_if_eqN 16 dJ0_charAt_5068e_4 (by decide) (by decide) (fun c => absurd c (by decide)) (fun _ => ?_)
  refine qw_aload_n 0 dJ0_charAt_5068e_7 rfl rfl ?_
  refine qw_sval hi fJ0_9 dJ0_charAt_5068e_8 ?_
  refine qw_iload_n 1 dJ0_charAt_5068e_11 rfl rfl ?_
  refine qw_csp [_, _] (k_J1_charAt hX hi hj hc.1 hc.2.1) mJ0_495 dJ0_charAt_5068e_12 rfl rfl (Nat.le_of_ble_eq_true rfl) (by omega) (by decide) rfl ?_
  exact qw_ireturn rfl hc.2.1 dJ0_charAt_5068e_15 ⟨congrArg (fun x => some (Value.int x)) (q_u_n _).symm, rfl, rfl, rfl, rfl⟩
end LQS2
