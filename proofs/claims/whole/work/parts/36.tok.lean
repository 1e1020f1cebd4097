/-! the text and its tokens -/
def t_ru (P : Nat → Bool) (t : Nat → Nat) (L : Nat) : Nat → Nat → Nat
  | 0, p => p
  | f + 1, p => if p < L ∧ P (t p) = true then t_ru P t L f (p + 1) else p
/-- where the run of such bytes ends that begins at p -/
def t_run (P : Nat → Bool) (t : Nat → Nat) (L p : Nat) : Nat := t_ru P t L (L - p) p
theorem t_run_y {P : Nat → Bool} {t : Nat → Nat} {L p : Nat} (h : p < L) (hp : P (t p) = true) : t_run P t L p = t_run P t L (p + 1) := by
  unfold t_run
  rw [show L - p = L - (p + 1) + 1 by omega, t_ru, if_pos ⟨h, hp⟩]
theorem t_run_n {P : Nat → Bool} {t : Nat → Nat} {L p : Nat} (h : p < L → P (t p) = false) : t_run P t L p = p := by
  unfold t_run
  rcases Nat.lt_or_ge p L with q | q
  · rw [show L - p = L - (p + 1) + 1 by omega, t_ru, if_neg (fun w => by rw [h q] at w; exact absurd w.2 (by decide))]
  · rw [show L - p = 0 by omega, t_ru]
theorem t_ru_ge (P : Nat → Bool) (t : Nat → Nat) (L : Nat) : ∀ f p, p ≤ t_ru P t L f p
  | 0, p => Nat.le_refl p
  | f + 1, p => by
    have := t_ru_ge P t L f (p + 1)
    rw [t_ru]
    split <;> omega
theorem t_ru_le (P : Nat → Bool) (t : Nat → Nat) (L : Nat) : ∀ f p, p ≤ L → t_ru P t L f p ≤ L
  | 0, _, h => h
  | f + 1, p, h => by
    rw [t_ru]
    split
    · exact t_ru_le P t L f (p + 1) (by omega)
    · exact h
theorem t_run_ge (P : Nat → Bool) (t : Nat → Nat) (L p : Nat) : p ≤ t_run P t L p := t_ru_ge P t L _ p
theorem t_run_le (P : Nat → Bool) (t : Nat → Nat) {L p : Nat} (h : p ≤ L) : t_run P t L p ≤ L := t_ru_le P t L _ p h
def t_isS (c : Nat) : Bool := decide (c = 32)
def t_isL (c : Nat) : Bool := decide (97 ≤ c ∧ c ≤ 122)
def t_isD (c : Nat) : Bool := decide (48 ≤ c ∧ c ≤ 57)
def t_sk (t : Nat → Nat) (L p : Nat) : Nat := t_run t_isS t L p
def t_wd (t : Nat → Nat) (L p : Nat) : Nat := t_run t_isL t L p
def t_dg (t : Nat → Nat) (L p : Nat) : Nat := t_run t_isD t L p
def t_vu (t : Nat → Nat) (L : Nat) : Nat → Nat → Nat → Nat
  | 0, _, v => v
  | f + 1, p, v => if p < L ∧ t_isD (t p) = true then t_vu t L f (p + 1) (if 9999 < v then v else 10 * v + t p - 48) else v
/-- the value of the digits from p on, v being read: no longer grown above all ranges -/
def t_vc (t : Nat → Nat) (L p v : Nat) : Nat := t_vu t L (L - p) p v
theorem t_vc_y {t : Nat → Nat} {L p v : Nat} (h : p < L) (hp : t_isD (t p) = true) : t_vc t L p v = t_vc t L (p + 1) (if 9999 < v then v else 10 * v + t p - 48) := by
  unfold t_vc
  rw [show L - p = L - (p + 1) + 1 by omega, t_vu, if_pos ⟨h, hp⟩]
theorem t_vc_n {t : Nat → Nat} {L p v : Nat} (h : p < L → t_isD (t p) = false) : t_vc t L p v = v := by
  unfold t_vc
  rcases Nat.lt_or_ge p L with q | q
  · rw [show L - p = L - (p + 1) + 1 by omega, t_vu, if_neg (fun w => by rw [h q] at w; exact absurd w.2 (by decide))]
  · rw [show L - p = 0 by omega, t_vu]
def t_kd (t : Nat → Nat) (L s : Nat) : Nat := if s < t_wd t L s then 1 else if s < t_dg t L s then 2 else if s < L then 3 else 0
def t_en (t : Nat → Nat) (L s : Nat) : Nat := if s < t_wd t L s then t_wd t L s else if s < t_dg t L s then t_dg t L s else min (s + 1) L
theorem t_en_le {t : Nat → Nat} {L s : Nat} (h : s ≤ L) : t_en t L s ≤ L := by
  have h1 := t_run_le t_isL t h
  have h2 := t_run_le t_isD t h
  unfold t_en t_wd t_dg
  split
  · exact h1
  · split
    · exact h2
    · omega
theorem t_cmp : ∀ c : Fin 256, (sb_b c.1 = nI 32 ↔ c.1 = 32) ∧ ((¬ sb_b c.1 < nI 97 ∧ ¬ nI 122 < sb_b c.1) ↔ (97 ≤ c.1 ∧ c.1 ≤ 122)) ∧ ((¬ sb_b c.1 < nI 48 ∧ ¬ nI 57 < sb_b c.1) ↔ (48 ≤ c.1 ∧ c.1 ≤ 57)) ∧ (c.1 < 128 → sb_b c.1 = nI c.1) := by decide +kernel
/-- the token that is shown: the one that begins at or behind e -/
def q_tks (M : lq_M) (k : Nat) (t : Nat → Nat) (L e : Nat) : Prop := M k 1 = L ∧ M k 2 = t_kd t L (t_sk t L e) ∧ M k 3 = t_sk t L e ∧ M k 4 = t_en t L (t_sk t L e) ∧ (t_kd t L (t_sk t L e) = 2 → M k 5 = t_vc t L (t_sk t L e) 0)
def sh7 (S : lq_S) (k x n : Nat) : Prop := S k = some (.inl (7, [some (some x), none, none, none, none, none])) ∧ S x = some (.inr (.inl (1, n)))
section TK1
variable {G : lq_G} {z : Nat} {S : lq_S} {N : lq_N}
theorem l3_X7_advance {k x nb L e : Nat} (hK : sh7 S k x nb) (hkx : x ≠ k) (hnb : nb ≤ 800) (hL : L ≤ nb) {t : Nat → Nat} (ht : ∀ j, j < L → t j < 256) {M0 : lq_M} (hM0 : ∀ j, j < L → M0 x j = t j) (he : e ≤ L) : ∀ (n9 p v : Nat) (M : lq_M), p ≤ L → L - p < n9 → t_sk t L e ≤ p → M k 1 = L → M k 3 = t_sk t L e → M k 4 = p → M k 5 = v → v < 2 ^ 31 → t_wd t L (t_sk t L e) = t_sk t L e → t_dg t L (t_sk t L e) = t_dg t L p → t_vc t L (t_sk t L e) 0 = t_vc t L p v → (∀ b, b ≠ k → M b = M0 b) → LW G YX7_advance 0 0 0 (lq_mv z S N (fun M1 => q_tks M1 k t L e ∧ ∀ b, b ≠ k → M1 b = M0 b)) lq_no z S M N 128 [some (.ref k)] [] := by
  intro n9
  induction n9 with
  | zero => intro _ _ _ _ _ _ _ _ _ _ _ _ _ _ _; omega
  | succ n9 ih =>
    intro p v M hp hn9 hsp m1 m3 m4 m5 hv w0 d0 v0 hq
    have hb : ∀ j, j < L → M x j = t j := fun j hj => by rw [hq x hkx]; exact hM0 j hj
    refine qw_aload_n 0 dX7_advance_128 rfl rfl ?_
    refine qw_geti fX7_25 dX7_advance_129 hK.1 rfl ?_
    rw [m4]
    refine qw_aload_n 0 dX7_advance_132 rfl rfl ?_
    refine qw_geti fX7_21 dX7_advance_133 hK.1 rfl ?_
    rw [m1]
    refine qw_icmp_geN 221 dX7_advance_136 (by decide) (by omega) (by omega) (fun c136 => ?_) (fun c136 => ?_)
    · have hdn : t_dg t L p = p := t_run_n (fun hpl => absurd hpl (by omega))
      have hvn : t_vc t L p v = v := t_vc_n (fun hpl => absurd hpl (by omega))
      rw [hdn] at d0
      rw [hvn] at v0
      refine qw_aload_n 0 dX7_advance_221 rfl rfl ?_
      refine qw_geti fX7_25 dX7_advance_222 hK.1 rfl ?_
      rw [m4]
      refine qw_aload_n 0 dX7_advance_225 rfl rfl ?_
      refine qw_geti fX7_31 dX7_advance_226 hK.1 rfl ?_
      rw [m3]
      refine qw_icmp_leN 238 dX7_advance_229 (by decide) (by omega) (by omega) (fun c229 => ?_) (fun c229 => ?_)
      · refine qw_aload_n 0 dX7_advance_238 rfl rfl ?_
        refine qw_aload_n 0 dX7_advance_239 rfl rfl ?_
        refine qw_geti fX7_31 dX7_advance_240 hK.1 rfl ?_
        rw [m3]
        refine qw_aload_n 0 dX7_advance_243 rfl rfl ?_
        refine qw_geti fX7_21 dX7_advance_244 hK.1 rfl ?_
        rw [m1]
        refine qw_icmp_geN 254 dX7_advance_247 (by decide) (by omega) (by omega) (fun c247 => ?_) (fun c247 => ?_)
        · refine qw_iconst (nI 0) dX7_advance_254 (by decide) ?_
          refine qw_puti fX7_37 dX7_advance_255 hK.1 rfl ?_
          refine qw_aload_n 0 dX7_advance_258 rfl rfl ?_
          refine qw_aload_n 0 dX7_advance_259 rfl rfl ?_
          refine qw_geti fX7_31 dX7_advance_260 hK.1 rfl ?_
          rw [lq_up_c _ _ (by decide), m3]
          refine qw_iconst (nI 1) dX7_advance_263 (by decide) ?_
          refine qw_addN dX7_advance_264 ?_
          refine qw_aload_n 0 dX7_advance_265 rfl rfl ?_
          refine qw_geti fX7_21 dX7_advance_266 hK.1 rfl ?_
          rw [lq_up_c _ _ (by decide), m1]
          refine qw_minN mmX7_15 (by omega) (by omega) dX7_advance_269 (Nat.le_of_ble_eq_true rfl) ?_
          refine qw_puti fX7_25 dX7_advance_272 hK.1 rfl ?_
          exact qw_return rfl dX7_advance_275 ⟨rfl, rfl, rfl, rfl, ⟨by rw [lq_up_c _ _ (by decide), lq_up_c _ _ (by decide)]; exact m1, by rw [lq_up_c _ _ (by decide), lq_up_s, t_kd, if_neg (by omega), if_neg (by omega), if_neg (by omega)], by rw [lq_up_c _ _ (by decide), lq_up_c _ _ (by decide)]; exact m3, by rw [lq_up_s, t_en, if_neg (by omega), if_neg (by omega)], fun q => by rw [t_kd, if_neg (by omega), if_neg (by omega), if_neg (by omega)] at q; exact absurd q (by decide)⟩, fun b hb9 => by rw [lq_up_n _ _ _ hb9, lq_up_n _ _ _ hb9]; exact hq b hb9⟩
        · refine qw_iconst (nI 3) dX7_advance_250 (by decide) ?_
          refine qw_goto 255 dX7_advance_251 (by decide) ?_
          refine qw_puti fX7_37 dX7_advance_255 hK.1 rfl ?_
          refine qw_aload_n 0 dX7_advance_258 rfl rfl ?_
          refine qw_aload_n 0 dX7_advance_259 rfl rfl ?_
          refine qw_geti fX7_31 dX7_advance_260 hK.1 rfl ?_
          rw [lq_up_c _ _ (by decide), m3]
          refine qw_iconst (nI 1) dX7_advance_263 (by decide) ?_
          refine qw_addN dX7_advance_264 ?_
          refine qw_aload_n 0 dX7_advance_265 rfl rfl ?_
          refine qw_geti fX7_21 dX7_advance_266 hK.1 rfl ?_
          rw [lq_up_c _ _ (by decide), m1]
          refine qw_minN mmX7_15 (by omega) (by omega) dX7_advance_269 (Nat.le_of_ble_eq_true rfl) ?_
          refine qw_puti fX7_25 dX7_advance_272 hK.1 rfl ?_
          exact qw_return rfl dX7_advance_275 ⟨rfl, rfl, rfl, rfl, ⟨by rw [lq_up_c _ _ (by decide), lq_up_c _ _ (by decide)]; exact m1, by rw [lq_up_c _ _ (by decide), lq_up_s, t_kd, if_neg (by omega), if_neg (by omega), if_pos (by omega)], by rw [lq_up_c _ _ (by decide), lq_up_c _ _ (by decide)]; exact m3, by rw [lq_up_s, t_en, if_neg (by omega), if_neg (by omega)], fun q => by rw [t_kd, if_neg (by omega), if_neg (by omega), if_pos (by omega)] at q; exact absurd q (by decide)⟩, fun b hb9 => by rw [lq_up_n _ _ _ hb9, lq_up_n _ _ _ hb9]; exact hq b hb9⟩
      · refine qw_aload_n 0 dX7_advance_232 rfl rfl ?_
        refine qw_iconst (nI 2) dX7_advance_233 (by decide) ?_
        refine qw_puti fX7_37 dX7_advance_234 hK.1 rfl ?_
        exact qw_return rfl dX7_advance_237 ⟨rfl, rfl, rfl, rfl, ⟨by rw [lq_up_c _ _ (by decide)]; exact m1, by rw [lq_up_s, t_kd, if_neg (by omega), if_pos (by omega)], by rw [lq_up_c _ _ (by decide)]; exact m3, by rw [lq_up_c _ _ (by decide), m4, t_en, if_neg (by omega), if_pos (by omega), d0], fun _ => by rw [lq_up_c _ _ (by decide), m5, v0]⟩, fun b hb9 => by rw [lq_up_n _ _ _ hb9]; exact hq b hb9⟩
    · refine qw_aload_n 0 dX7_advance_139 rfl rfl ?_
      refine qw_getr fX7_9 dX7_advance_140 hK.1 rfl ?_
      refine qw_aload_n 0 dX7_advance_143 rfl rfl ?_
      refine qw_geti fX7_25 dX7_advance_144 hK.1 rfl ?_
      rw [m4]
      refine qw_bald dX7_advance_147 hK.2 (by omega) (by omega) ?_
      rw [hb p (by omega)]
      refine qw_bipush (nI 48) dX7_advance_148 (by decide) ?_
      refine qw_icmp_lt 221 dX7_advance_150 (by decide) (fun c150 => ?_) (fun c150 => ?_)
      · have hdn : t_dg t L p = p := t_run_n (fun hpl => decide_eq_false (fun q => ((t_cmp ⟨t p, ht p hpl⟩).2.2.1.mpr q).1 c150))
        have hvn : t_vc t L p v = v := t_vc_n (fun hpl => decide_eq_false (fun q => ((t_cmp ⟨t p, ht p hpl⟩).2.2.1.mpr q).1 c150))
        rw [hdn] at d0
        rw [hvn] at v0
        refine qw_aload_n 0 dX7_advance_221 rfl rfl ?_
        refine qw_geti fX7_25 dX7_advance_222 hK.1 rfl ?_
        rw [m4]
        refine qw_aload_n 0 dX7_advance_225 rfl rfl ?_
        refine qw_geti fX7_31 dX7_advance_226 hK.1 rfl ?_
        rw [m3]
        refine qw_icmp_leN 238 dX7_advance_229 (by decide) (by omega) (by omega) (fun c229 => ?_) (fun c229 => ?_)
        · refine qw_aload_n 0 dX7_advance_238 rfl rfl ?_
          refine qw_aload_n 0 dX7_advance_239 rfl rfl ?_
          refine qw_geti fX7_31 dX7_advance_240 hK.1 rfl ?_
          rw [m3]
          refine qw_aload_n 0 dX7_advance_243 rfl rfl ?_
          refine qw_geti fX7_21 dX7_advance_244 hK.1 rfl ?_
          rw [m1]
          refine qw_icmp_geN 254 dX7_advance_247 (by decide) (by omega) (by omega) (fun c247 => ?_) (fun c247 => ?_)
          · refine qw_iconst (nI 0) dX7_advance_254 (by decide) ?_
            refine qw_puti fX7_37 dX7_advance_255 hK.1 rfl ?_
            refine qw_aload_n 0 dX7_advance_258 rfl rfl ?_
            refine qw_aload_n 0 dX7_advance_259 rfl rfl ?_
            refine qw_geti fX7_31 dX7_advance_260 hK.1 rfl ?_
            rw [lq_up_c _ _ (by decide), m3]
            refine qw_iconst (nI 1) dX7_advance_263 (by decide) ?_
            refine qw_addN dX7_advance_264 ?_
            refine qw_aload_n 0 dX7_advance_265 rfl rfl ?_
            refine qw_geti fX7_21 dX7_advance_266 hK.1 rfl ?_
            rw [lq_up_c _ _ (by decide), m1]
            refine qw_minN mmX7_15 (by omega) (by omega) dX7_advance_269 (Nat.le_of_ble_eq_true rfl) ?_
            refine qw_puti fX7_25 dX7_advance_272 hK.1 rfl ?_
            exact qw_return rfl dX7_advance_275 ⟨rfl, rfl, rfl, rfl, ⟨by rw [lq_up_c _ _ (by decide), lq_up_c _ _ (by decide)]; exact m1, by rw [lq_up_c _ _ (by decide), lq_up_s, t_kd, if_neg (by omega), if_neg (by omega), if_neg (by omega)], by rw [lq_up_c _ _ (by decide), lq_up_c _ _ (by decide)]; exact m3, by rw [lq_up_s, t_en, if_neg (by omega), if_neg (by omega)], fun q => by rw [t_kd, if_neg (by omega), if_neg (by omega), if_neg (by omega)] at q; exact absurd q (by decide)⟩, fun b hb9 => by rw [lq_up_n _ _ _ hb9, lq_up_n _ _ _ hb9]; exact hq b hb9⟩
          · refine qw_iconst (nI 3) dX7_advance_250 (by decide) ?_
            refine qw_goto 255 dX7_advance_251 (by decide) ?_
            refine qw_puti fX7_37 dX7_advance_255 hK.1 rfl ?_
            refine qw_aload_n 0 dX7_advance_258 rfl rfl ?_
            refine qw_aload_n 0 dX7_advance_259 rfl rfl ?_
            refine qw_geti fX7_31 dX7_advance_260 hK.1 rfl ?_
            rw [lq_up_c _ _ (by decide), m3]
            refine qw_iconst (nI 1) dX7_advance_263 (by decide) ?_
            refine qw_addN dX7_advance_264 ?_
            refine qw_aload_n 0 dX7_advance_265 rfl rfl ?_
            refine qw_geti fX7_21 dX7_advance_266 hK.1 rfl ?_
            rw [lq_up_c _ _ (by decide), m1]
            refine qw_minN mmX7_15 (by omega) (by omega) dX7_advance_269 (Nat.le_of_ble_eq_true rfl) ?_
            refine qw_puti fX7_25 dX7_advance_272 hK.1 rfl ?_
            exact qw_return rfl dX7_advance_275 ⟨rfl, rfl, rfl, rfl, ⟨by rw [lq_up_c _ _ (by decide), lq_up_c _ _ (by decide)]; exact m1, by rw [lq_up_c _ _ (by decide), lq_up_s, t_kd, if_neg (by omega), if_neg (by omega), if_pos (by omega)], by rw [lq_up_c _ _ (by decide), lq_up_c _ _ (by decide)]; exact m3, by rw [lq_up_s, t_en, if_neg (by omega), if_neg (by omega)], fun q => by rw [t_kd, if_neg (by omega), if_neg (by omega), if_pos (by omega)] at q; exact absurd q (by decide)⟩, fun b hb9 => by rw [lq_up_n _ _ _ hb9, lq_up_n _ _ _ hb9]; exact hq b hb9⟩
        · refine qw_aload_n 0 dX7_advance_232 rfl rfl ?_
          refine qw_iconst (nI 2) dX7_advance_233 (by decide) ?_
          refine qw_puti fX7_37 dX7_advance_234 hK.1 rfl ?_
          exact qw_return rfl dX7_advance_237 ⟨rfl, rfl, rfl, rfl, ⟨by rw [lq_up_c _ _ (by decide)]; exact m1, by rw [lq_up_s, t_kd, if_neg (by omega), if_pos (by omega)], by rw [lq_up_c _ _ (by decide)]; exact m3, by rw [lq_up_c _ _ (by decide), m4, t_en, if_neg (by omega), if_pos (by omega), d0], fun _ => by rw [lq_up_c _ _ (by decide), m5, v0]⟩, fun b hb9 => by rw [lq_up_n _ _ _ hb9]; exact hq b hb9⟩
      · refine qw_aload_n 0 dX7_advance_153 rfl rfl ?_
        refine qw_getr fX7_9 dX7_advance_154 hK.1 rfl ?_
        refine qw_aload_n 0 dX7_advance_157 rfl rfl ?_
        refine qw_geti fX7_25 dX7_advance_158 hK.1 rfl ?_
        rw [m4]
        refine qw_bald dX7_advance_161 hK.2 (by omega) (by omega) ?_
        rw [hb p (by omega)]
        refine qw_bipush (nI 57) dX7_advance_162 (by decide) ?_
        refine qw_icmp_gt 221 dX7_advance_164 (by decide) (fun c164 => ?_) (fun c164 => ?_)
        · have hdn : t_dg t L p = p := t_run_n (fun hpl => decide_eq_false (fun q => ((t_cmp ⟨t p, ht p hpl⟩).2.2.1.mpr q).2 c164))
          have hvn : t_vc t L p v = v := t_vc_n (fun hpl => decide_eq_false (fun q => ((t_cmp ⟨t p, ht p hpl⟩).2.2.1.mpr q).2 c164))
          rw [hdn] at d0
          rw [hvn] at v0
          refine qw_aload_n 0 dX7_advance_221 rfl rfl ?_
          refine qw_geti fX7_25 dX7_advance_222 hK.1 rfl ?_
          rw [m4]
          refine qw_aload_n 0 dX7_advance_225 rfl rfl ?_
          refine qw_geti fX7_31 dX7_advance_226 hK.1 rfl ?_
          rw [m3]
          refine qw_icmp_leN 238 dX7_advance_229 (by decide) (by omega) (by omega) (fun c229 => ?_) (fun c229 => ?_)
          · refine qw_aload_n 0 dX7_advance_238 rfl rfl ?_
            refine qw_aload_n 0 dX7_advance_239 rfl rfl ?_
            refine qw_geti fX7_31 dX7_advance_240 hK.1 rfl ?_
            rw [m3]
            refine qw_aload_n 0 dX7_advance_243 rfl rfl ?_
            refine qw_geti fX7_21 dX7_advance_244 hK.1 rfl ?_
            rw [m1]
            refine qw_icmp_geN 254 dX7_advance_247 (by decide) (by omega) (by omega) (fun c247 => ?_) (fun c247 => ?_)
            · refine qw_iconst (nI 0) dX7_advance_254 (by decide) ?_
              refine qw_puti fX7_37 dX7_advance_255 hK.1 rfl ?_
              refine qw_aload_n 0 dX7_advance_258 rfl rfl ?_
              refine qw_aload_n 0 dX7_advance_259 rfl rfl ?_
              refine qw_geti fX7_31 dX7_advance_260 hK.1 rfl ?_
              rw [lq_up_c _ _ (by decide), m3]
              refine qw_iconst (nI 1) dX7_advance_263 (by decide) ?_
              refine qw_addN dX7_advance_264 ?_
              refine qw_aload_n 0 dX7_advance_265 rfl rfl ?_
              refine qw_geti fX7_21 dX7_advance_266 hK.1 rfl ?_
              rw [lq_up_c _ _ (by decide), m1]
              refine qw_minN mmX7_15 (by omega) (by omega) dX7_advance_269 (Nat.le_of_ble_eq_true rfl) ?_
              refine qw_puti fX7_25 dX7_advance_272 hK.1 rfl ?_
              exact qw_return rfl dX7_advance_275 ⟨rfl, rfl, rfl, rfl, ⟨by rw [lq_up_c _ _ (by decide), lq_up_c _ _ (by decide)]; exact m1, by rw [lq_up_c _ _ (by decide), lq_up_s, t_kd, if_neg (by omega), if_neg (by omega), if_neg (by omega)], by rw [lq_up_c _ _ (by decide), lq_up_c _ _ (by decide)]; exact m3, by rw [lq_up_s, t_en, if_neg (by omega), if_neg (by omega)], fun q => by rw [t_kd, if_neg (by omega), if_neg (by omega), if_neg (by omega)] at q; exact absurd q (by decide)⟩, fun b hb9 => by rw [lq_up_n _ _ _ hb9, lq_up_n _ _ _ hb9]; exact hq b hb9⟩
            · refine qw_iconst (nI 3) dX7_advance_250 (by decide) ?_
              refine qw_goto 255 dX7_advance_251 (by decide) ?_
              refine qw_puti fX7_37 dX7_advance_255 hK.1 rfl ?_
              refine qw_aload_n 0 dX7_advance_258 rfl rfl ?_
              refine qw_aload_n 0 dX7_advance_259 rfl rfl ?_
              refine qw_geti fX7_31 dX7_advance_260 hK.1 rfl ?_
              rw [lq_up_c _ _ (by decide), m3]
              refine qw_iconst (nI 1) dX7_advance_263 (by decide) ?_
              refine qw_addN dX7_advance_264 ?_
              refine qw_aload_n 0 dX7_advance_265 rfl rfl ?_
              refine qw_geti fX7_21 dX7_advance_266 hK.1 rfl ?_
              rw [lq_up_c _ _ (by decide), m1]
              refine qw_minN mmX7_15 (by omega) (by omega) dX7_advance_269 (Nat.le_of_ble_eq_true rfl) ?_
              refine qw_puti fX7_25 dX7_advance_272 hK.1 rfl ?_
              exact qw_return rfl dX7_advance_275 ⟨rfl, rfl, rfl, rfl, ⟨by rw [lq_up_c _ _ (by decide), lq_up_c _ _ (by decide)]; exact m1, by rw [lq_up_c _ _ (by decide), lq_up_s, t_kd, if_neg (by omega), if_neg (by omega), if_pos (by omega)], by rw [lq_up_c _ _ (by decide), lq_up_c _ _ (by decide)]; exact m3, by rw [lq_up_s, t_en, if_neg (by omega), if_neg (by omega)], fun q => by rw [t_kd, if_neg (by omega), if_neg (by omega), if_pos (by omega)] at q; exact absurd q (by decide)⟩, fun b hb9 => by rw [lq_up_n _ _ _ hb9, lq_up_n _ _ _ hb9]; exact hq b hb9⟩
          · refine qw_aload_n 0 dX7_advance_232 rfl rfl ?_
            refine qw_iconst (nI 2) dX7_advance_233 (by decide) ?_
            refine qw_puti fX7_37 dX7_advance_234 hK.1 rfl ?_
            exact qw_return rfl dX7_advance_237 ⟨rfl, rfl, rfl, rfl, ⟨by rw [lq_up_c _ _ (by decide)]; exact m1, by rw [lq_up_s, t_kd, if_neg (by omega), if_pos (by omega)], by rw [lq_up_c _ _ (by decide)]; exact m3, by rw [lq_up_c _ _ (by decide), m4, t_en, if_neg (by omega), if_pos (by omega), d0], fun _ => by rw [lq_up_c _ _ (by decide), m5, v0]⟩, fun b hb9 => by rw [lq_up_n _ _ _ hb9]; exact hq b hb9⟩
        · refine qw_aload_n 0 dX7_advance_167 rfl rfl ?_
          refine qw_aload_n 0 dX7_advance_168 rfl rfl ?_
          refine qw_geti fX7_34 dX7_advance_169 hK.1 rfl ?_
          rw [m5]
          refine qw_sipush (nI 9999) dX7_advance_172 (by decide) ?_
          refine qw_icmp_leN 185 dX7_advance_175 (by decide) (by omega) (by omega) (fun c175 => ?_) (fun c175 => ?_)
          · refine qw_bipush (nI 10) dX7_advance_185 (by decide) ?_
            refine qw_aload_n 0 dX7_advance_187 rfl rfl ?_
            refine qw_geti fX7_34 dX7_advance_188 hK.1 rfl ?_
            rw [m5]
            refine qw_mulN dX7_advance_191 ?_
            refine qw_aload_n 0 dX7_advance_192 rfl rfl ?_
            refine qw_getr fX7_9 dX7_advance_193 hK.1 rfl ?_
            refine qw_aload_n 0 dX7_advance_196 rfl rfl ?_
            refine qw_geti fX7_25 dX7_advance_197 hK.1 rfl ?_
            rw [m4]
            refine qw_bald dX7_advance_200 hK.2 (by omega) (by omega) ?_
            rw [hb p (by omega)]
            have hd7 := (t_cmp ⟨t p, ht p (by omega)⟩).2.2.1.mp ⟨c150, c164⟩
            have hd6 : 48 ≤ t p ∧ t p ≤ 57 := hd7
            have hlo := (t_cmp ⟨t p, ht p (by omega)⟩).2.2.2 (show t p < 128 by omega)
            have hlo : sb_b (t p) = nI (t p) := hlo
            rw [hlo]
            refine qw_addN dX7_advance_201 ?_
            refine qw_bipush (nI 48) dX7_advance_202 (by decide) ?_
            refine qw_subN (by omega) dX7_advance_204 ?_
            refine qw_puti fX7_34 dX7_advance_205 hK.1 rfl ?_
            refine qw_aload_n 0 dX7_advance_208 rfl rfl ?_
            refine qw_dup dX7_advance_209 rfl ?_
            refine qw_geti fX7_25 dX7_advance_210 hK.1 rfl ?_
            rw [lq_up_c _ _ (by decide), m4]
            refine qw_iconst (nI 1) dX7_advance_213 (by decide) ?_
            refine qw_addN dX7_advance_214 ?_
            refine qw_puti fX7_25 dX7_advance_215 hK.1 rfl ?_
            refine qw_goto 128 dX7_advance_218 (by decide) ?_
            have hd9 := (t_cmp ⟨t p, ht p (by omega)⟩).2.2.1.mp ⟨c150, c164⟩
            have hd8 : 48 ≤ t p ∧ t p ≤ 57 := hd9
            have hdd : t_isD (t p) = true := decide_eq_true hd8
            have hvc := t_vc_y (v := v) (show p < L by omega) hdd
            rw [if_neg (by omega)] at hvc
            refine ih (p + 1) (10 * v + t p - 48) _ (by omega) (by omega) (by omega) ?_ ?_ ?_ ?_ (by omega) w0 (d0.trans (t_run_y (by omega) hdd)) (v0.trans hvc) (fun b hb9 => by rw [lq_up_n _ _ _ hb9, lq_up_n _ _ _ hb9]; exact hq b hb9)
            · rw [lq_up_c _ _ (by decide), lq_up_c _ _ (by decide)]; exact m1
            · rw [lq_up_c _ _ (by decide), lq_up_c _ _ (by decide)]; exact m3
            · rw [lq_up_s]
            · rw [lq_up_c _ _ (by decide), lq_up_s]
          · refine qw_aload_n 0 dX7_advance_178 rfl rfl ?_
            refine qw_geti fX7_34 dX7_advance_179 hK.1 rfl ?_
            rw [m5]
            refine qw_goto 205 dX7_advance_182 (by decide) ?_
            refine qw_puti fX7_34 dX7_advance_205 hK.1 rfl ?_
            refine qw_aload_n 0 dX7_advance_208 rfl rfl ?_
            refine qw_dup dX7_advance_209 rfl ?_
            refine qw_geti fX7_25 dX7_advance_210 hK.1 rfl ?_
            rw [lq_up_c _ _ (by decide), m4]
            refine qw_iconst (nI 1) dX7_advance_213 (by decide) ?_
            refine qw_addN dX7_advance_214 ?_
            refine qw_puti fX7_25 dX7_advance_215 hK.1 rfl ?_
            refine qw_goto 128 dX7_advance_218 (by decide) ?_
            have hd9 := (t_cmp ⟨t p, ht p (by omega)⟩).2.2.1.mp ⟨c150, c164⟩
            have hd8 : 48 ≤ t p ∧ t p ≤ 57 := hd9
            have hdd : t_isD (t p) = true := decide_eq_true hd8
            have hvc := t_vc_y (v := v) (show p < L by omega) hdd
            rw [if_pos (by omega)] at hvc
            refine ih (p + 1) v _ (by omega) (by omega) (by omega) ?_ ?_ ?_ ?_ (by omega) w0 (d0.trans (t_run_y (by omega) hdd)) (v0.trans hvc) (fun b hb9 => by rw [lq_up_n _ _ _ hb9, lq_up_n _ _ _ hb9]; exact hq b hb9)
            · rw [lq_up_c _ _ (by decide), lq_up_c _ _ (by decide)]; exact m1
            · rw [lq_up_c _ _ (by decide), lq_up_c _ _ (by decide)]; exact m3
            · rw [lq_up_s]
            · rw [lq_up_c _ _ (by decide), lq_up_s]
theorem l2_X7_advance {k x nb L e : Nat} (hK : sh7 S k x nb) (hkx : x ≠ k) (hnb : nb ≤ 800) (hL : L ≤ nb) {t : Nat → Nat} (ht : ∀ j, j < L → t j < 256) {M0 : lq_M} (hM0 : ∀ j, j < L → M0 x j = t j) (he : e ≤ L) : ∀ (n9 p : Nat) (M : lq_M), p ≤ L → L - p < n9 → t_sk t L e ≤ p → M k 1 = L → M k 3 = t_sk t L e → M k 4 = p → M k 5 = 0 → t_wd t L (t_sk t L e) = t_wd t L p → (∀ b, b ≠ k → M b = M0 b) → LW G YX7_advance 0 0 0 (lq_mv z S N (fun M1 => q_tks M1 k t L e ∧ ∀ b, b ≠ k → M1 b = M0 b)) lq_no z S M N 59 [some (.ref k)] [] := by
  intro n9
  induction n9 with
  | zero => intro _ _ _ _ _ _ _ _ _ _ _; omega
  | succ n9 ih =>
    intro p M hp hn9 hsp m1 m3 m4 m5 w0 hq
    have hb : ∀ j, j < L → M x j = t j := fun j hj => by rw [hq x hkx]; exact hM0 j hj
    refine qw_aload_n 0 dX7_advance_59 rfl rfl ?_
    refine qw_geti fX7_25 dX7_advance_60 hK.1 rfl ?_
    rw [m4]
    refine qw_aload_n 0 dX7_advance_63 rfl rfl ?_
    refine qw_geti fX7_21 dX7_advance_64 hK.1 rfl ?_
    rw [m1]
    refine qw_icmp_geN 111 dX7_advance_67 (by decide) (by omega) (by omega) (fun c67 => ?_) (fun c67 => ?_)
    · have hwn : t_wd t L p = p := t_run_n (fun hpl => absurd hpl (by omega))
      rw [hwn] at w0
      refine qw_aload_n 0 dX7_advance_111 rfl rfl ?_
      refine qw_geti fX7_25 dX7_advance_112 hK.1 rfl ?_
      rw [m4]
      refine qw_aload_n 0 dX7_advance_115 rfl rfl ?_
      refine qw_geti fX7_31 dX7_advance_116 hK.1 rfl ?_
      rw [m3]
      refine qw_icmp_leN 128 dX7_advance_119 (by decide) (by omega) (by omega) (fun c119 => ?_) (fun c119 => ?_)
      · exact qw_weak _ (by simp [lq_le]) (l3_X7_advance hK hkx hnb hL ht hM0 he (L + 1) p 0 M hp (by omega) hsp m1 m3 m4 m5 (by decide) (by rw [w0]; omega) (by rw [show t_sk t L e = p by omega]) (by rw [show t_sk t L e = p by omega]) hq)
      · refine qw_aload_n 0 dX7_advance_122 rfl rfl ?_
        refine qw_iconst (nI 1) dX7_advance_123 (by decide) ?_
        refine qw_puti fX7_37 dX7_advance_124 hK.1 rfl ?_
        exact qw_return rfl dX7_advance_127 ⟨rfl, rfl, rfl, rfl, ⟨by rw [lq_up_c _ _ (by decide)]; exact m1, by rw [lq_up_s, t_kd, if_pos (by omega)], by rw [lq_up_c _ _ (by decide)]; exact m3, by rw [lq_up_c _ _ (by decide), m4, t_en, if_pos (by omega), w0], fun q => by rw [t_kd, if_pos (by omega)] at q; exact absurd q (by decide)⟩, fun b hb9 => by rw [lq_up_n _ _ _ hb9]; exact hq b hb9⟩
    · refine qw_aload_n 0 dX7_advance_70 rfl rfl ?_
      refine qw_getr fX7_9 dX7_advance_71 hK.1 rfl ?_
      refine qw_aload_n 0 dX7_advance_74 rfl rfl ?_
      refine qw_geti fX7_25 dX7_advance_75 hK.1 rfl ?_
      rw [m4]
      refine qw_bald dX7_advance_78 hK.2 (by omega) (by omega) ?_
      rw [hb p (by omega)]
      refine qw_bipush (nI 97) dX7_advance_79 (by decide) ?_
      refine qw_icmp_lt 111 dX7_advance_81 (by decide) (fun c81 => ?_) (fun c81 => ?_)
      · have hwn : t_wd t L p = p := t_run_n (fun hpl => decide_eq_false (fun q => ((t_cmp ⟨t p, ht p hpl⟩).2.1.mpr q).1 c81))
        rw [hwn] at w0
        refine qw_aload_n 0 dX7_advance_111 rfl rfl ?_
        refine qw_geti fX7_25 dX7_advance_112 hK.1 rfl ?_
        rw [m4]
        refine qw_aload_n 0 dX7_advance_115 rfl rfl ?_
        refine qw_geti fX7_31 dX7_advance_116 hK.1 rfl ?_
        rw [m3]
        refine qw_icmp_leN 128 dX7_advance_119 (by decide) (by omega) (by omega) (fun c119 => ?_) (fun c119 => ?_)
        · exact qw_weak _ (by simp [lq_le]) (l3_X7_advance hK hkx hnb hL ht hM0 he (L + 1) p 0 M hp (by omega) hsp m1 m3 m4 m5 (by decide) (by rw [w0]; omega) (by rw [show t_sk t L e = p by omega]) (by rw [show t_sk t L e = p by omega]) hq)
        · refine qw_aload_n 0 dX7_advance_122 rfl rfl ?_
          refine qw_iconst (nI 1) dX7_advance_123 (by decide) ?_
          refine qw_puti fX7_37 dX7_advance_124 hK.1 rfl ?_
          exact qw_return rfl dX7_advance_127 ⟨rfl, rfl, rfl, rfl, ⟨by rw [lq_up_c _ _ (by decide)]; exact m1, by rw [lq_up_s, t_kd, if_pos (by omega)], by rw [lq_up_c _ _ (by decide)]; exact m3, by rw [lq_up_c _ _ (by decide), m4, t_en, if_pos (by omega), w0], fun q => by rw [t_kd, if_pos (by omega)] at q; exact absurd q (by decide)⟩, fun b hb9 => by rw [lq_up_n _ _ _ hb9]; exact hq b hb9⟩
      · refine qw_aload_n 0 dX7_advance_84 rfl rfl ?_
        refine qw_getr fX7_9 dX7_advance_85 hK.1 rfl ?_
        refine qw_aload_n 0 dX7_advance_88 rfl rfl ?_
        refine qw_geti fX7_25 dX7_advance_89 hK.1 rfl ?_
        rw [m4]
        refine qw_bald dX7_advance_92 hK.2 (by omega) (by omega) ?_
        rw [hb p (by omega)]
        refine qw_bipush (nI 122) dX7_advance_93 (by decide) ?_
        refine qw_icmp_gt 111 dX7_advance_95 (by decide) (fun c95 => ?_) (fun c95 => ?_)
        · have hwn : t_wd t L p = p := t_run_n (fun hpl => decide_eq_false (fun q => ((t_cmp ⟨t p, ht p hpl⟩).2.1.mpr q).2 c95))
          rw [hwn] at w0
          refine qw_aload_n 0 dX7_advance_111 rfl rfl ?_
          refine qw_geti fX7_25 dX7_advance_112 hK.1 rfl ?_
          rw [m4]
          refine qw_aload_n 0 dX7_advance_115 rfl rfl ?_
          refine qw_geti fX7_31 dX7_advance_116 hK.1 rfl ?_
          rw [m3]
          refine qw_icmp_leN 128 dX7_advance_119 (by decide) (by omega) (by omega) (fun c119 => ?_) (fun c119 => ?_)
          · exact qw_weak _ (by simp [lq_le]) (l3_X7_advance hK hkx hnb hL ht hM0 he (L + 1) p 0 M hp (by omega) hsp m1 m3 m4 m5 (by decide) (by rw [w0]; omega) (by rw [show t_sk t L e = p by omega]) (by rw [show t_sk t L e = p by omega]) hq)
          · refine qw_aload_n 0 dX7_advance_122 rfl rfl ?_
            refine qw_iconst (nI 1) dX7_advance_123 (by decide) ?_
            refine qw_puti fX7_37 dX7_advance_124 hK.1 rfl ?_
            exact qw_return rfl dX7_advance_127 ⟨rfl, rfl, rfl, rfl, ⟨by rw [lq_up_c _ _ (by decide)]; exact m1, by rw [lq_up_s, t_kd, if_pos (by omega)], by rw [lq_up_c _ _ (by decide)]; exact m3, by rw [lq_up_c _ _ (by decide), m4, t_en, if_pos (by omega), w0], fun q => by rw [t_kd, if_pos (by omega)] at q; exact absurd q (by decide)⟩, fun b hb9 => by rw [lq_up_n _ _ _ hb9]; exact hq b hb9⟩
        · refine qw_aload_n 0 dX7_advance_98 rfl rfl ?_
          refine qw_dup dX7_advance_99 rfl ?_
          refine qw_geti fX7_25 dX7_advance_100 hK.1 rfl ?_
          rw [m4]
          refine qw_iconst (nI 1) dX7_advance_103 (by decide) ?_
          refine qw_addN dX7_advance_104 ?_
          refine qw_puti fX7_25 dX7_advance_105 hK.1 rfl ?_
          refine qw_goto 59 dX7_advance_108 (by decide) ?_
          have hdl := (t_cmp ⟨t p, ht p (by omega)⟩).2.1.mp ⟨c81, c95⟩
          have hdd : t_isL (t p) = true := decide_eq_true hdl
          refine ih (p + 1) _ (by omega) (by omega) (by omega) ?_ ?_ ?_ ?_ (w0.trans (t_run_y (by omega) hdd)) (fun b hb9 => by rw [lq_up_n _ _ _ hb9]; exact hq b hb9)
          · rw [lq_up_c _ _ (by decide)]; exact m1
          · rw [lq_up_c _ _ (by decide)]; exact m3
          · rw [lq_up_s]
          · rw [lq_up_c _ _ (by decide)]; exact m5
theorem l1_X7_advance {k x nb L e : Nat} (hK : sh7 S k x nb) (hkx : x ≠ k) (hnb : nb ≤ 800) (hL : L ≤ nb) {t : Nat → Nat} (ht : ∀ j, j < L → t j < 256) {M0 : lq_M} (hM0 : ∀ j, j < L → M0 x j = t j) (he : e ≤ L) : ∀ (n9 p : Nat) (M : lq_M), p ≤ L → L - p < n9 → M k 1 = L → M k 3 = p → t_sk t L e = t_sk t L p → (∀ b, b ≠ k → M b = M0 b) → LW G YX7_advance 0 0 0 (lq_mv z S N (fun M1 => q_tks M1 k t L e ∧ ∀ b, b ≠ k → M1 b = M0 b)) lq_no z S M N 8 [some (.ref k)] [] := by
  intro n9
  induction n9 with
  | zero => intro _ _ _ _ _ _ _ _; omega
  | succ n9 ih =>
    intro p M hp hn9 m1 m3 k0 hq
    have hb : ∀ j, j < L → M x j = t j := fun j hj => by rw [hq x hkx]; exact hM0 j hj
    refine qw_aload_n 0 dX7_advance_8 rfl rfl ?_
    refine qw_geti fX7_31 dX7_advance_9 hK.1 rfl ?_
    rw [m3]
    refine qw_aload_n 0 dX7_advance_12 rfl rfl ?_
    refine qw_geti fX7_21 dX7_advance_13 hK.1 rfl ?_
    rw [m1]
    refine qw_icmp_geN 46 dX7_advance_16 (by decide) (by omega) (by omega) (fun c16 => ?_) (fun c16 => ?_)
    · have hsn : t_sk t L p = p := t_run_n (fun hpl => absurd hpl (by omega))
      rw [hsn] at k0
      refine qw_aload_n 0 dX7_advance_46 rfl rfl ?_
      refine qw_aload_n 0 dX7_advance_47 rfl rfl ?_
      refine qw_geti fX7_31 dX7_advance_48 hK.1 rfl ?_
      rw [m3]
      refine qw_puti fX7_25 dX7_advance_51 hK.1 rfl ?_
      refine qw_aload_n 0 dX7_advance_54 rfl rfl ?_
      refine qw_iconst (nI 0) dX7_advance_55 (by decide) ?_
      refine qw_puti fX7_34 dX7_advance_56 hK.1 rfl ?_
      refine l2_X7_advance hK hkx hnb hL ht hM0 he (L + 1) p _ hp (by omega) (by omega) ?_ ?_ ?_ ?_ (by rw [k0]) (fun b hb9 => by rw [lq_up_n _ _ _ hb9, lq_up_n _ _ _ hb9]; exact hq b hb9)
      · rw [lq_up_c _ _ (by decide), lq_up_c _ _ (by decide)]; exact m1
      · rw [lq_up_c _ _ (by decide), lq_up_c _ _ (by decide), k0]; exact m3
      · rw [lq_up_c _ _ (by decide), lq_up_s]
      · rw [lq_up_s]
    · refine qw_aload_n 0 dX7_advance_19 rfl rfl ?_
      refine qw_getr fX7_9 dX7_advance_20 hK.1 rfl ?_
      refine qw_aload_n 0 dX7_advance_23 rfl rfl ?_
      refine qw_geti fX7_31 dX7_advance_24 hK.1 rfl ?_
      rw [m3]
      refine qw_bald dX7_advance_27 hK.2 (by omega) (by omega) ?_
      rw [hb p (by omega)]
      refine qw_bipush (nI 32) dX7_advance_28 (by decide) ?_
      refine qw_icmp_ne 46 dX7_advance_30 (by decide) (fun c30 => ?_) (fun c30 => ?_)
      · have hsn : t_sk t L p = p := t_run_n (fun hpl => decide_eq_false (fun q => c30 ((t_cmp ⟨t p, ht p hpl⟩).1.mpr q)))
        rw [hsn] at k0
        refine qw_aload_n 0 dX7_advance_46 rfl rfl ?_
        refine qw_aload_n 0 dX7_advance_47 rfl rfl ?_
        refine qw_geti fX7_31 dX7_advance_48 hK.1 rfl ?_
        rw [m3]
        refine qw_puti fX7_25 dX7_advance_51 hK.1 rfl ?_
        refine qw_aload_n 0 dX7_advance_54 rfl rfl ?_
        refine qw_iconst (nI 0) dX7_advance_55 (by decide) ?_
        refine qw_puti fX7_34 dX7_advance_56 hK.1 rfl ?_
        refine l2_X7_advance hK hkx hnb hL ht hM0 he (L + 1) p _ hp (by omega) (by omega) ?_ ?_ ?_ ?_ (by rw [k0]) (fun b hb9 => by rw [lq_up_n _ _ _ hb9, lq_up_n _ _ _ hb9]; exact hq b hb9)
        · rw [lq_up_c _ _ (by decide), lq_up_c _ _ (by decide)]; exact m1
        · rw [lq_up_c _ _ (by decide), lq_up_c _ _ (by decide), k0]; exact m3
        · rw [lq_up_c _ _ (by decide), lq_up_s]
        · rw [lq_up_s]
      · refine qw_aload_n 0 dX7_advance_33 rfl rfl ?_
        refine qw_dup dX7_advance_34 rfl ?_
        refine qw_geti fX7_31 dX7_advance_35 hK.1 rfl ?_
        rw [m3]
        refine qw_iconst (nI 1) dX7_advance_38 (by decide) ?_
        refine qw_addN dX7_advance_39 ?_
        refine qw_puti fX7_31 dX7_advance_40 hK.1 rfl ?_
        refine qw_goto 8 dX7_advance_43 (by decide) ?_
        have hdd : t_isS (t p) = true := decide_eq_true ((t_cmp ⟨t p, ht p (by omega)⟩).1.mp c30)
        refine ih (p + 1) _ (by omega) (by omega) ?_ ?_ (k0.trans (t_run_y (by omega) hdd)) (fun b hb9 => by rw [lq_up_n _ _ _ hb9]; exact hq b hb9)
        · rw [lq_up_c _ _ (by decide)]; exact m1
        · rw [lq_up_s]
theorem k_X7_advance {k x nb L e : Nat} (hK : sh7 S k x nb) (hkx : x ≠ k) (hnb : nb ≤ 800) (hL : L ≤ nb) {t : Nat → Nat} (ht : ∀ j, j < L → t j < 256) {M : lq_M} (hM : ∀ j, j < L → M x j = t j) (he : e ≤ L) (m1 : M k 1 = L) (m4 : M k 4 = e) : LM G YX7_advance 0 0 0 [.ref k] z S M N (lq_mv z S N (fun M1 => q_tks M1 k t L e ∧ ∀ b, b ≠ k → M1 b = M b)) lq_no := by
  refine LM.of (by decide) rfl [some (.ref k)] rfl (Nat.le_of_ble_eq_true rfl) ?_
  refine qw_aload_n 0 dX7_advance_0 rfl rfl ?_
  refine qw_aload_n 0 dX7_advance_1 rfl rfl ?_
  refine qw_geti fX7_25 dX7_advance_2 hK.1 rfl ?_
  rw [m4]
  refine qw_puti fX7_31 dX7_advance_5 hK.1 rfl ?_
  refine l1_X7_advance hK hkx hnb hL ht hM he (L + 1) e _ he (by omega) ?_ ?_ rfl (fun b hb9 => lq_up_n _ _ _ hb9)
  · rw [lq_up_c _ _ (by decide)]; exact m1
  · rw [lq_up_s]
end TK1
