/-! THE LAW: its objects are made, then its loop -/
theorem q_I.start {b m v : Nat} {M : lq_M} (hb : b + 1607 ≤ m) (h1 : ∀ x, b ≤ x → x < b + 1607 → M x = fun j => if x = b ∧ j = 2 then v else 0) (h2 : ∀ x, m ≤ x → x < m + 273 → M x = fun j => if x = m ∧ j = 7 then v else 0) : q_I b m 0 (fun _ _ => 0) (fun _ => q_dft) (fun _ => 0) M := by
  have z1 : ∀ x, b < x → x < b + 1607 → M x = fun _ => 0 := fun x x1 x2 => by
    rw [h1 x (by omega) x2]
    funext j
    rw [if_neg (fun q => by omega)]
  have z2 : ∀ x, m < x → x < m + 273 → M x = fun _ => 0 := fun x x1 x2 => by
    rw [h2 x (by omega) x2]
    funext j
    rw [if_neg (fun q => by omega)]
  have eb : ∀ j, M b j = if j = 2 then v else 0 := fun j => by
    rw [h1 b (by omega) (by omega)]
    by_cases q : j = 2
    · rw [if_pos q]; exact if_pos ⟨rfl, q⟩
    · rw [if_neg q]; exact if_neg (fun r => q r.2)
  have em : ∀ j, M m j = if j = 7 then v else 0 := fun j => by
    rw [h2 m (by omega) (by omega)]
    by_cases q : j = 7
    · rw [if_pos q]; exact if_pos ⟨rfl, q⟩
    · rw [if_neg q]; exact if_neg (fun r => q r.2)
  refine ⟨⟨0, by decide, by rw [z1 _ (by omega) (by omega)], by rw [z1 _ (by omega) (by omega)], by decide, fun j hj => ?_⟩, ⟨by rw [em]; rfl, by decide, fun j j1 j2 => by omega⟩, (z2 (m + 2) (by omega) (by omega)).symm, fun j hj => Or.inr ⟨rfl, rfl, rfl⟩, by rw [eb, em]; rfl, by rw [em]; exact Nat.zero_le _, fun j => ?_, by rw [eb, em]; rfl⟩
  · obtain rfl : j = 0 := by omega
    have hr : q_ri 0 0 = 0 := rfl
    rw [hr]
    refine ⟨⟨by rw [z1 _ (by omega) (by omega)], by rw [z1 _ (by omega) (by omega)], by rw [z1 _ (by omega) (by omega)], fun i hi => absurd hi (Nat.not_lt_zero i), fun s hs => absurd hs (Nat.not_lt_zero s), fun c hc => ?_, ⟨by rw [z1 _ (by omega) (by omega)], fun j hj => absurd hj (Nat.not_lt_zero j)⟩, ⟨by rw [z1 _ (by omega) (by omega)], fun k hk => absurd hk (Nat.not_lt_zero k)⟩⟩, g_wf.zero, Or.inr ⟨rfl, rfl⟩, Nat.zero_le _⟩
    rw [z1 _ (by omega) (by omega)]
    exact ⟨(show 0 < 1024 from by decide), fun b hb => by show 0 / 2 ^ b % 2 = 0; rw [Nat.zero_div]⟩
  · rw [z1 (b + 1) (by omega) (by omega), z2 (m + 1) (by omega) (by omega)]
    exact ⟨rfl, (show 0 < 256 from by decide)⟩
section SLW
variable {G : lq_G}
theorem s_law {a L b : Nat} {xs : Nat → Int32} {S : lq_S} {M : lq_M} {N : lq_N} (hX : va_X a L xs (lq_u G) (lq_u G).heap) (hL : L ≤ 3072) (hNC : q_NC G) (hA : q_AO G) {v : Value} (hXs : lq_sx G v) {Q : lq_P} (hQ : ∀ z S M N, Q (some (.int (nI 1))) z S M N) : LW G YL_law 30 20000 200000 Q lq_no b S M N 0 [some (.ref a), none, none, none, none, none, none] [] := by
  refine qw_new 19999 199990 nL_8 dL_law_0 (by decide) (by decide) ?_
  refine qw_dup dL_law_3 rfl ?_
  refine lq_callI (As := []) (k_X8_init (a := b) hA (by rw [lq_us_s]) (by rw [lq_z_s])) mL_82 dL_law_4 rfl rfl (Nat.le_of_ble_eq_true rfl) (by decide) (by decide) (by decide) (by decide) rfl (fun _ _ _ _ _ h => h.elim) (fun r z1 S1 M1 N1 h1 => ?_)
  obtain ⟨rfl, rfl, hn1, F, fp, fb, f, h8, h5, hD⟩ := h1
  refine qw_astore_n 1 dL_law_7 rfl rfl (by decide) ?_
  refine qw_new 18000 170000 nL_83 dL_law_8 (by decide) (by decide) ?_
  refine qw_dup dL_law_11 rfl ?_
  refine lq_callI (As := []) (k_X9_init (a := b + 1607) hA (by rw [lq_us_s]) (by rw [lq_z_s])) mL_85 dL_law_12 rfl rfl (Nat.le_of_ble_eq_true rfl) (by decide) (by decide) (by decide) (by decide) rfl (fun _ _ _ _ _ h => h.elim) (fun r z2 S2 M2 N2 h2 => ?_)
  obtain ⟨rfl, rfl, hn2, fh, fo, h9⟩ := h2
  refine qw_astore_n 2 dL_law_15 rfl rfl (by decide) ?_
  refine qw_iconst (nI 1) dL_law_16 (by decide) ?_
  refine qw_newl 17000 130000 lq_arL dL_law_17 (by decide) (by decide) (by decide) ?_
  refine qw_astore_n 3 dL_law_19 rfl rfl (by decide) ?_
  refine qw_iconst (nI 0) dL_law_20 (by decide) ?_
  refine qw_istore dL_law_21 rfl (by decide) ?_
  have eS1 : ∀ c, c < b + 1607 → lq_us S2 (b + 1607 + 273) (.inr (.inl (2, 1))) c = S1 c := fun c hc => by rw [lq_us_n _ _ (by omega), (hn2.1 c hc).1, lq_us_n _ _ (by omega)]
  have eM1 : ∀ c, c < b + 1607 → lq_z M2 (b + 1607 + 273) 0 c = M1 c := fun c hc => by rw [lq_z_n _ _ (by omega), (hn2.1 c hc).2.1, lq_z_n _ _ (by omega)]
  refine LW.room (kc := 3 * (L - 0)) (ks := 18 * (L - 0)) (by omega) (by omega) ?_
  refine l_law (b := b) (m := b + 1607) (o := b + 1607 + 273) hX hL hNC hXs (Nat.le_refl _) (Nat.le_refl _) hQ (L + 7) 0 _ _ _ _ 0 (fun _ _ => 0) (fun _ => q_dft) (fun _ => 0) (by omega) (by decide) ⟨⟨F, fp, fb, h8.eqS (fun c c1 c2 c3 c4 => eS1 c c2)⟩, ⟨b + 4, 0, h5.eqS (eS1 _ (by omega)) (eS1 _ (by omega)) (eS1 _ (by omega))⟩, ⟨f, q_id, hD.eqS (fun c c1 c2 => eS1 c (by omega))⟩, ⟨fh, fo, h9.eqS (fun c c1 c2 => lq_us_n _ _ (by omega))⟩, lq_us_s _ _ _⟩ (q_I.start (v := 4294967295) (Nat.le_refl _) (fun x x1 x2 => by rw [eM1 x x2]; exact hn1.2 x x1 x2) (fun x x1 x2 => by rw [lq_z_n _ _ (by omega)]; exact hn2.2 x x1 x2))
end SLW
