/-! Math.min, max: the kit's rows over the lite heap -/
theorem mS_1 : Cond.static Lib.Math.min.name ∈ lq_W := lq_in (by decide +kernel) (by decide +kernel)
theorem mS_2 : Cond.static Lib.Math.max.name ∈ lq_W := lq_in (by decide +kernel) (by decide +kernel)
theorem mS_3 : Cond.static Lib.MathLoose.min_long.x ∈ lq_W := lq_in (by decide +kernel) (by decide +kernel)
theorem mS_4 : Cond.static Lib.MathLoose.max_long.x ∈ lq_W := lq_in (by decide +kernel) (by decide +kernel)
theorem mS_i : Cond.initialized "java/lang/Math" ∈ lq_W := lq_in (by decide +kernel) (by decide +kernel)
theorem mC_1 : Cond.code Lib.Math.min.name Lib.Math.min.code 2 (some .int) ∈ lq_W := lq_in (by decide +kernel) (by decide +kernel)
theorem mC_2 : Cond.code Lib.Math.max.name Lib.Math.max.code 2 (some .int) ∈ lq_W := lq_in (by decide +kernel) (by decide +kernel)
theorem mC_3 : Cond.code Lib.MathLoose.min_long.x Lib.MathLoose.min_long.code 4 (some .long) ∈ lq_W := lq_in (by decide +kernel) (by decide +kernel)
theorem mC_4 : Cond.code Lib.MathLoose.max_long.x Lib.MathLoose.max_long.code 4 (some .long) ∈ lq_W := lq_in (by decide +kernel) (by decide +kernel)
section LQM
variable {G : lq_G} {Y : lq_Y} {d kc ks z : Nat} {S : lq_S} {M : lq_M} {N : lq_N} {Q : lq_P} {X : lq_E} {pc : Nat} {lv : List (Option Value)} {st : List Value}
theorem qw_min {i : Nat} {x y : Int32} (hw : Cond.methodLink Y.1.cls i Lib.Math.min.name ∈ lq_W) (hd : decode Y.2.1 pc = .ok (.invokestatic i, 3)) (hr : (st.map fun v => v.category).sum ≤ 8) (k : LW G Y d kc ks Q X z S M N (pc + 3) lv (.int (if y < x then y else x) :: st)) : LW G Y d kc ks Q X z S M N pc lv (.int y :: .int x :: st) := fun p e R s m args below meth c H locs cells slots ls C =>
  va_mmin C.1.1 C.1.2.1 (C.1.2.2.1.trans C.2.2.2.2.2.1.symm) C.1.2.2.2.1 (C.1.2.2.2.2 _ hw) (C.1.2.2.2.2 _ mS_1) (C.1.2.2.2.2 _ mS_i) (C.1.2.2.2.2 _ mC_1) (by have := C.2.2.2.2.1; omega) (by have := C.2.2.2.2.1; omega) (Nat.le_trans (Nat.le_add_right _ _) C.2.2.2.2.1.1) (Nat.le_trans (Nat.le_add_right _ _) C.2.2.2.2.1.2.1) hd (k p e R s m args below meth c H locs cells slots ls C)
theorem qw_max {i : Nat} {x y : Int32} (hw : Cond.methodLink Y.1.cls i Lib.Math.max.name ∈ lq_W) (hd : decode Y.2.1 pc = .ok (.invokestatic i, 3)) (hr : (st.map fun v => v.category).sum ≤ 8) (k : LW G Y d kc ks Q X z S M N (pc + 3) lv (.int (if x < y then y else x) :: st)) : LW G Y d kc ks Q X z S M N pc lv (.int y :: .int x :: st) := fun p e R s m args below meth c H locs cells slots ls C =>
  va_mmax C.1.1 C.1.2.1 (C.1.2.2.1.trans C.2.2.2.2.2.1.symm) C.1.2.2.2.1 (C.1.2.2.2.2 _ hw) (C.1.2.2.2.2 _ mS_2) (C.1.2.2.2.2 _ mS_i) (C.1.2.2.2.2 _ mC_2) (by have := C.2.2.2.2.1; omega) (by have := C.2.2.2.2.1; omega) (Nat.le_trans (Nat.le_add_right _ _) C.2.2.2.2.1.1) (Nat.le_trans (Nat.le_add_right _ _) C.2.2.2.2.1.2.1) hd (k p e R s m args below meth c H locs cells slots ls C)
theorem qw_minL {i : Nat} {x y : Int64} (hw : Cond.methodLink Y.1.cls i Lib.MathLoose.min_long.x ∈ lq_W) (hd : decode Y.2.1 pc = .ok (.invokestatic i, 3)) (hr : (st.map fun v => v.category).sum ≤ 8) (k : LW G Y d kc ks Q X z S M N (pc + 3) lv (.long (if y < x then y else x) :: st)) : LW G Y d kc ks Q X z S M N pc lv (.long y :: .long x :: st) := fun p e R s m args below meth c H locs cells slots ls C =>
  va_mmin_long C.1.1 C.1.2.1 (C.1.2.2.1.trans C.2.2.2.2.2.1.symm) C.1.2.2.2.1 (C.1.2.2.2.2 _ hw) (C.1.2.2.2.2 _ mS_3) (C.1.2.2.2.2 _ mS_i) (C.1.2.2.2.2 _ mC_3) (by have := C.2.2.2.2.1; omega) (by have := C.2.2.2.2.1; omega) (Nat.le_trans (Nat.le_add_right _ _) C.2.2.2.2.1.1) (Nat.le_trans (Nat.le_add_right _ _) C.2.2.2.2.1.2.1) hd (k p e R s m args below meth c H locs cells slots ls C)
theorem qw_maxL {i : Nat} {x y : Int64} (hw : Cond.methodLink Y.1.cls i Lib.MathLoose.max_long.x ∈ lq_W) (hd : decode Y.2.1 pc = .ok (.invokestatic i, 3)) (hr : (st.map fun v => v.category).sum ≤ 8) (k : LW G Y d kc ks Q X z S M N (pc + 3) lv (.long (if y < x then x else y) :: st)) : LW G Y d kc ks Q X z S M N pc lv (.long y :: .long x :: st) := fun p e R s m args below meth c H locs cells slots ls C =>
  va_mmax_long C.1.1 C.1.2.1 (C.1.2.2.1.trans C.2.2.2.2.2.1.symm) C.1.2.2.2.1 (C.1.2.2.2.2 _ hw) (C.1.2.2.2.2 _ mS_4) (C.1.2.2.2.2 _ mS_i) (C.1.2.2.2.2 _ mC_4) (by have := C.2.2.2.2.1; omega) (by have := C.2.2.2.2.1; omega) (Nat.le_trans (Nat.le_add_right _ _) C.2.2.2.2.1.1) (Nat.le_trans (Nat.le_add_right _ _) C.2.2.2.2.1.2.1) hd (k p e R s m args below meth c H locs cells slots ls C)
theorem qw_minN {i : Nat} {a b : Nat} (hw : Cond.methodLink Y.1.cls i Lib.Math.min.name ∈ lq_W) (ha : a < 2 ^ 31) (hb : b < 2 ^ 31) (hd : decode Y.2.1 pc = .ok (.invokestatic i, 3)) (hr : (st.map fun v => v.category).sum ≤ 8) (k : LW G Y d kc ks Q X z S M N (pc + 3) lv (.int (nI (min a b)) :: st)) : LW G Y d kc ks Q X z S M N pc lv (.int (nI b) :: .int (nI a) :: st) := qw_min hw hd hr (by
    rw [show (if nI b < nI a then nI b else nI a) = nI (min a b) from by
      by_cases h : b < a
      · rw [if_pos ((nI_ltI hb ha).mpr h), Nat.min_eq_right (by omega)]
      · rw [if_neg (fun q => h ((nI_ltI hb ha).mp q)), Nat.min_eq_left (by omega)]]
    exact k)
theorem qw_maxN {i : Nat} {a b : Nat} (hw : Cond.methodLink Y.1.cls i Lib.Math.max.name ∈ lq_W) (ha : a < 2 ^ 31) (hb : b < 2 ^ 31) (hd : decode Y.2.1 pc = .ok (.invokestatic i, 3)) (hr : (st.map fun v => v.category).sum ≤ 8) (k : LW G Y d kc ks Q X z S M N (pc + 3) lv (.int (nI (max a b)) :: st)) : LW G Y d kc ks Q X z S M N pc lv (.int (nI b) :: .int (nI a) :: st) := qw_max hw hd hr (by
    rw [show (if nI a < nI b then nI b else nI a) = nI (max a b) from by
      by_cases h : a < b
      · rw [if_pos ((nI_ltI ha hb).mpr h), Nat.max_eq_right (by omega)]
      · rw [if_neg (fun q => h ((nI_ltI ha hb).mp q)), Nat.max_eq_left (by omega)]]
    exact k)
end LQM
theorem mmX2_40 : Cond.methodLink RX2 40 Lib.MathLoose.min_long.x ∈ lq_W := lq_in (by decide +kernel) (by decide +kernel)
theorem mmX2_46 : Cond.methodLink RX2 46 Lib.MathLoose.max_long.x ∈ lq_W := lq_in (by decide +kernel) (by decide +kernel)
theorem mmX3_29 : Cond.methodLink RX3 29 Lib.Math.min.name ∈ lq_W := lq_in (by decide +kernel) (by decide +kernel)
theorem mmX4_132 : Cond.methodLink RX4 132 Lib.Math.min.name ∈ lq_W := lq_in (by decide +kernel) (by decide +kernel)
theorem mmX4_137 : Cond.methodLink RX4 137 Lib.Math.max.name ∈ lq_W := lq_in (by decide +kernel) (by decide +kernel)
theorem mmX6_26 : Cond.methodLink RX6 26 Lib.Math.min.name ∈ lq_W := lq_in (by decide +kernel) (by decide +kernel)
theorem mmX7_15 : Cond.methodLink RX7 15 Lib.Math.min.name ∈ lq_W := lq_in (by decide +kernel) (by decide +kernel)
