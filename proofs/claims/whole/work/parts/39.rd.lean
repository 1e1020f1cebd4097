/-! the reader: the code of a word; the beginning of a text -/
/-- which variable is shown: one more than its number; 0 if none -/
noncomputable def t_cw (t : Nat → Nat) (L e : Nat) : Nat := if t_wb t L e 14 ≠ 0 then 1 else if t_wb t L e 15 ≠ 0 then 2 else if t_wb t L e 16 ≠ 0 then 3 else if t_wb t L e 17 ≠ 0 then 4 else if t_wb t L e 18 ≠ 0 then 5 else 0
theorem t_cw_le (t : Nat → Nat) (L e : Nat) : t_cw t L e ≤ 5 := by
  unfold t_cw
  repeat' split
  all_goals omega
section RD2
variable {G : lq_G} {z : Nat} {S : lq_S} {N : lq_N}
theorem k_X5_codeOfWord {r x nb L e : Nat} (h5 : sh5 S r x nb) (hxk : x ≠ r + 1) (hnb : nb ≤ 800) (hL : L ≤ nb) {t : Nat → Nat} (ht : ∀ j, j < L → t j < 256) {M : lq_M} (hM : ∀ j, j < L → M x j = t j) (he : e ≤ L) (hT : q_tks M (r + 1) t L e) {v : Value} (hX : lq_sx G v) : LM G YX5_codeOfWord 5 0 0 [.ref r] z S M N (lq_pu z S M N (.int (-nI (t_cw t L e)))) lq_no := by
  have w0 := t_wb_01 t L e 14
  have w1 := t_wb_01 t L e 15
  have w2 := t_wb_01 t L e 16
  have w3 := t_wb_01 t L e 17
  have w4 := t_wb_01 t L e 18
  refine LM.of (by decide) rfl [some (.ref r)] rfl (Nat.le_of_ble_eq_true rfl) ?_
  refine qw_aload_n 0 dX5_codeOfWord_0 rfl rfl ?_
  refine qw_getr fX5_12 dX5_codeOfWord_1 h5.1 rfl ?_
  refine qw_ldcS 14 dX5_codeOfWord_4 rfl ?_
  refine qw_cvp [_] (k_X7_isWord h5.2 hnb hL ht hM he hT (by decide) hX) mX5_60 dX5_codeOfWord_6 h5.2.1 rfl rfl rfl (Nat.le_of_ble_eq_true rfl) (by omega) (by decide) rfl ?_
  refine qw_if_eqN 14 dX5_codeOfWord_9 (by decide) (by omega) (fun c9 => ?_) (fun c9 => ?_)
  · refine qw_aload_n 0 dX5_codeOfWord_14 rfl rfl ?_
    refine qw_getr fX5_12 dX5_codeOfWord_15 h5.1 rfl ?_
    refine qw_ldcS 15 dX5_codeOfWord_18 rfl ?_
    refine qw_cvp [_] (k_X7_isWord h5.2 hnb hL ht hM he hT (by decide) hX) mX5_60 dX5_codeOfWord_20 h5.2.1 rfl rfl rfl (Nat.le_of_ble_eq_true rfl) (by omega) (by decide) rfl ?_
    refine qw_if_eqN 29 dX5_codeOfWord_23 (by decide) (by omega) (fun c23 => ?_) (fun c23 => ?_)
    · refine qw_aload_n 0 dX5_codeOfWord_29 rfl rfl ?_
      refine qw_getr fX5_12 dX5_codeOfWord_30 h5.1 rfl ?_
      refine qw_ldcS 16 dX5_codeOfWord_33 rfl ?_
      refine qw_cvp [_] (k_X7_isWord h5.2 hnb hL ht hM he hT (by decide) hX) mX5_60 dX5_codeOfWord_35 h5.2.1 rfl rfl rfl (Nat.le_of_ble_eq_true rfl) (by omega) (by decide) rfl ?_
      refine qw_if_eqN 44 dX5_codeOfWord_38 (by decide) (by omega) (fun c38 => ?_) (fun c38 => ?_)
      · refine qw_aload_n 0 dX5_codeOfWord_44 rfl rfl ?_
        refine qw_getr fX5_12 dX5_codeOfWord_45 h5.1 rfl ?_
        refine qw_ldcS 17 dX5_codeOfWord_48 rfl ?_
        refine qw_cvp [_] (k_X7_isWord h5.2 hnb hL ht hM he hT (by decide) hX) mX5_60 dX5_codeOfWord_50 h5.2.1 rfl rfl rfl (Nat.le_of_ble_eq_true rfl) (by omega) (by decide) rfl ?_
        refine qw_if_eqN 59 dX5_codeOfWord_53 (by decide) (by omega) (fun c53 => ?_) (fun c53 => ?_)
        · refine qw_aload_n 0 dX5_codeOfWord_59 rfl rfl ?_
          refine qw_getr fX5_12 dX5_codeOfWord_60 h5.1 rfl ?_
          refine qw_ldcS 18 dX5_codeOfWord_63 rfl ?_
          refine qw_cvp [_] (k_X7_isWord h5.2 hnb hL ht hM he hT (by decide) hX) mX5_60 dX5_codeOfWord_65 h5.2.1 rfl rfl rfl (Nat.le_of_ble_eq_true rfl) (by omega) (by decide) rfl ?_
          refine qw_if_eqN 76 dX5_codeOfWord_68 (by decide) (by omega) (fun c68 => ?_) (fun c68 => ?_)
          · refine qw_iconst (nI 0) dX5_codeOfWord_76 (by decide) ?_
            exact qw_ireturn rfl rfl dX5_codeOfWord_77 ⟨by rw [t_cw, if_neg (fun w => w c9), if_neg (fun w => w c23), if_neg (fun w => w c38), if_neg (fun w => w c53), if_neg (fun w => w c68)]; rfl, rfl, rfl, rfl, rfl⟩
          · refine qw_bipush (-5) dX5_codeOfWord_71 (by decide) ?_
            refine qw_goto 77 dX5_codeOfWord_73 (by decide) ?_
            exact qw_ireturn rfl rfl dX5_codeOfWord_77 ⟨by rw [t_cw, if_neg (fun w => w c9), if_neg (fun w => w c23), if_neg (fun w => w c38), if_neg (fun w => w c53), if_pos c68]; rfl, rfl, rfl, rfl, rfl⟩
        · refine qw_bipush (-4) dX5_codeOfWord_56 (by decide) ?_
          exact qw_ireturn rfl rfl dX5_codeOfWord_58 ⟨by rw [t_cw, if_neg (fun w => w c9), if_neg (fun w => w c23), if_neg (fun w => w c38), if_pos c53]; rfl, rfl, rfl, rfl, rfl⟩
      · refine qw_bipush (-3) dX5_codeOfWord_41 (by decide) ?_
        exact qw_ireturn rfl rfl dX5_codeOfWord_43 ⟨by rw [t_cw, if_neg (fun w => w c9), if_neg (fun w => w c23), if_pos c38]; rfl, rfl, rfl, rfl, rfl⟩
    · refine qw_bipush (-2) dX5_codeOfWord_26 (by decide) ?_
      exact qw_ireturn rfl rfl dX5_codeOfWord_28 ⟨by rw [t_cw, if_neg (fun w => w c9), if_pos c23]; rfl, rfl, rfl, rfl, rfl⟩
  · refine qw_iconst (-1) dX5_codeOfWord_12 (by decide) ?_
    exact qw_ireturn rfl rfl dX5_codeOfWord_13 ⟨by rw [t_cw, if_pos c9]; rfl, rfl, rfl, rfl, rfl⟩
def q_tkO (x : Nat) : lq_C := .inl (7, [some (some x), none, none, none, none, none])
theorem k_X7_begin {k x0 nb0 x nb l : Nat} (hK : sh7 S k x0 nb0) (hkx : x ≠ k) (hx : S x = some (.inr (.inl (1, nb)))) (hnb : nb ≤ 800) (hl : l ≤ nb) {t : Nat → Nat} (ht : ∀ j, j < l → t j < 256) {M : lq_M} (hM : ∀ j, j < l → M x j = t j) : LM G YX7_begin 1 0 0 [.ref k, .ref x, .int (nI l)] z S M N (fun rr z1 S1 M1 N1 => z1 = z ∧ N1 = N ∧ rr = none ∧ S1 = lq_us S k (q_tkO x) ∧ q_tks M1 k t l 0 ∧ ∀ b, b ≠ k → M1 b = M b) lq_no := by
  refine LM.of (by decide) rfl [some (.ref k), some (.ref x), some (.int (nI l))] rfl (Nat.le_of_ble_eq_true rfl) ?_
  have hK2 : sh7 (lq_us S k (q_tkO x)) k x nb := ⟨lq_us_s S k _, by rw [lq_us_n S _ hkx]; exact hx⟩
  refine qw_aload_n 0 dX7_begin_0 rfl rfl ?_
  refine qw_aload_n 1 dX7_begin_1 rfl rfl ?_
  refine qw_putr fX7_9 dX7_begin_2 rfl rfl hK.1 rfl ?_
  show LW G YX7_begin 1 0 0 _ _ z (lq_us S k (q_tkO x)) M N _ _ _
  refine qw_aload_n 0 dX7_begin_5 rfl rfl ?_
  refine qw_iload_n 2 dX7_begin_6 rfl rfl ?_
  refine qw_aload_n 1 dX7_begin_7 rfl rfl ?_
  refine qw_alenb dX7_begin_8 hK2.2 ?_
  refine qw_minN mmX7_15 (by omega) (by omega) dX7_begin_9 (Nat.le_of_ble_eq_true rfl) ?_
  rw [Nat.min_eq_left hl]
  refine qw_puti fX7_21 dX7_begin_12 hK2.1 rfl ?_
  refine qw_aload_n 0 dX7_begin_15 rfl rfl ?_
  refine qw_iconst (nI 0) dX7_begin_16 (by decide) ?_
  refine qw_puti fX7_25 dX7_begin_17 hK2.1 rfl ?_
  refine qw_aload_n 0 dX7_begin_20 rfl rfl ?_
  refine qw_cvv [] (k_X7_advance (e := 0) hK2 hkx hnb hl ht (M := lq_up (lq_up M k 1 l) k 4 0) (fun j hj => by rw [lq_up_n _ _ _ hkx, lq_up_n _ _ _ hkx]; exact hM j hj) (Nat.zero_le l) (by rw [lq_up_c _ _ (by decide), lq_up_s]) (by rw [lq_up_s])) mX7_28 dX7_begin_21 hK2.1 rfl rfl rfl (Nat.le_of_ble_eq_true rfl) (by omega) (by decide) rfl (fun M1 h1 => ?_)
  exact qw_return rfl dX7_begin_24 ⟨rfl, rfl, rfl, rfl, h1.1, fun b hb => by rw [h1.2 b hb, lq_up_n _ _ _ hb, lq_up_n _ _ _ hb]⟩
end RD2
