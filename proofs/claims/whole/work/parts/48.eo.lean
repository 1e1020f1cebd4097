/-! errorOffset; the reader's constructors' pictures -/
section EO
variable {G : lq_G} {z : Nat} {S : lq_S} {N : lq_N} {M : lq_M}
theorem k_X8_errorOffset {b : Nat} {F : Nat → Nat → Option Nat} {fp fb : Nat → Option Nat} (h8 : sh8 S b F fp fb) : LM G YX8_errorOffset 0 0 0 [.ref b] z S M N (lq_pu z S M N (.int (nI (M b 2)))) lq_no := by
  refine LM.of (by decide) rfl [some (.ref b)] rfl (Nat.le_of_ble_eq_true rfl) ?_
  refine qw_aload_n 0 dX8_errorOffset_0 rfl rfl ?_
  refine qw_geti fX8_17 dX8_errorOffset_1 h8.1 rfl ?_
  exact qw_ireturn rfl rfl dX8_errorOffset_4 ⟨rfl, rfl, rfl, rfl, rfl⟩
end EO
