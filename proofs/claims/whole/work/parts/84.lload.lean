/-! THE LAW: isBanned, load -/
theorem sh9.eqS {S S1 : lq_S} {m : Nat} {fh fo : Nat → Option Nat} (h : sh9 S m fh fo) (e : ∀ c, m ≤ c → c < m + 273 → S1 c = S c) : sh9 S1 m fh fo := by
  obtain ⟨a1, ⟨a2, a3, a4⟩, ⟨a5, a6, a7⟩, ⟨a8, a9, a10, a11⟩, a12, a13⟩ := h
  exact ⟨by rw [e _ (by omega) (by omega)]; exact a1, ⟨by rw [e _ (by omega) (by omega)]; exact a2, by rw [e _ (by omega) (by omega)]; exact a3, by rw [e _ (by omega) (by omega)]; exact a4⟩, ⟨by rw [e _ (by omega) (by omega)]; exact a5, a6, fun k hk => by rw [e _ (by omega) (by omega)]; exact a7 k hk⟩, ⟨by rw [e _ (by omega) (by omega)]; exact a8, by rw [e _ (by omega) (by omega)]; exact a9, a10, fun k hk => by rw [e _ (by omega) (by omega)]; exact a11 k hk⟩, by rw [e _ (by omega) (by omega)]; exact a12, by rw [e _ (by omega) (by omega)]; exact a13⟩
section QLD
variable {b m u v : Nat} {H H1 : Nat → Nat → Nat} {tk tk1 : Nat → Nat → Nat × Nat} {n n1 : Nat → Nat} {M M1 M2 : lq_M}
theorem q_I.ld (h : q_I b m u H tk n M) (hb : b + 1607 ≤ m) (hout : ∀ c, c < b ∨ c = b + 1 ∨ b + 1607 ≤ c → M1 c = M c) (h1 : M1 b 1 = 0) (e2 : M1 b 2 = v) (hr : M2 m 2 = 0) (h7 : M2 m 7 = v) (hfr : ∀ c, c < m ∨ m + 273 ≤ c → M2 c = M1 c) (hb1 : M2 (m + 1) = M1 (m + 1)) {u1 : Nat} (hhi : q_hi M1 (b + 139) u1 H1 tk1 n1) (hhr : q_hr M2 m u1 H1) (hd : H1 0 = M2 (m + 2)) (hcx : ∀ j, j ≤ u1 → q_cx (H1 j) (tk1 j) (n1 j)) : q_I b m u1 H1 tk1 n1 M2 := by
  obtain ⟨g1, g2, g3, g4, g5, g6, g7, g8⟩ := h
  refine ⟨hhi.eqM (fun x x1 x2 => hfr x (by omega)), hhr, hd, hcx, by rw [hr, hfr b (by omega)]; exact h1, by omega, fun j => ?_, by rw [h7, hfr b (by omega)]; exact e2⟩
  rw [hb1, hfr (b + 1) (by omega), hout (b + 1) (by omega), hout (m + 1) (by omega)]
  exact g7 j
end QLD
section LB
variable {G : lq_G} {z : Nat} {S : lq_S} {M : lq_M} {N : lq_N}
theorem c_isBanned {a b m o L i u kc ks : Nat} {xs : Nat → Int32} (hX : va_X a L xs (lq_u G) (lq_u G).heap) (hL : L ≤ 3072) (hNC : q_NC G) (hb : b + 1607 ≤ m) (hm : m + 273 ≤ o) (hi : i + 6 ≤ L) {H : Nat → Nat → Nat} {tk : Nat → Nat → Nat × Nat} {n : Nat → Nat} (hsh : q_sh9 S b m o) (hI : q_I b m u H tk n M) {Q : lq_P} (kk : ∀ (z1 : Nat) (S1 : lq_S) (M1 : lq_M) (N1 : lq_N) (u1 : Nat) (H1 : Nat → Nat → Nat) (tk1 : Nat → Nat → Nat × Nat) (n1 : Nat → Nat), q_sh9 S1 b m o → q_I b m u1 H1 tk1 n1 M1 → LW G YL_law 30 kc ks Q lq_no z1 S1 M1 N1 1729 [some (.ref a), some (.ref b), some (.ref m), some (.ref o), some (.int (nI i)), none, none] []) : LW G YL_law 30 (kc + 3) (ks + 18) Q lq_no z S M N 556 [some (.ref a), some (.ref b), some (.ref m), some (.ref o), some (.int (nI i)), none, none] [] := by
  obtain ⟨⟨F, fp, fb, h8⟩, ⟨x0, nb0, h5⟩, ⟨fD, σD, hD⟩, ⟨fh, fo, h9⟩, hO⟩ := id hsh
  refine qw_aload_n 1 dL_law_556 rfl rfl ?_
  refine qw_aload_n 0 dL_law_557 rfl rfl ?_
  refine qw_iload dL_law_558 rfl ?_
  refine qw_iconst (nI 1) dL_law_560 (by decide) ?_
  refine qw_addN dL_law_561 ?_
  refine qw_xald hX dL_law_562 (by omega) (by omega) ?_
  refine qw_aload_n 0 dL_law_563 rfl rfl ?_
  refine qw_iload dL_law_564 rfl ?_
  refine qw_iconst (nI 2) dL_law_566 (by decide) ?_
  refine qw_addN dL_law_567 ?_
  refine qw_xald hX dL_law_568 (by omega) (by omega) ?_
  refine qw_aload_n 3 dL_law_569 rfl rfl ?_
  refine lq_callSH (As := [.ref b, .int (xs (i + 1)), .int (xs (i + 2)), .ref o]) (k_L_isBanned hNC h8.1 (k_X8_isBanned h8 hI.1) (fun r z1 S1 M1 N1 hq => by obtain ⟨-, rfl, -, x9, rfl, -⟩ := hq; exact ⟨⟨x9, rfl⟩, hO⟩) (fun E hE => hE.1)) sL_123 dL_law_570 rfl rfl (Nat.le_of_ble_eq_true rfl) (by decide) (by decide) (by omega) (by omega) rfl (fun _ _ _ _ _ h => h.elim) (fun r z1 S1 M1 N1 hw => ?_)
  rcases hw with ⟨x1, N0, ⟨rfl, rfl, rfl, x9, e9, hV, hh1, hf1⟩, rfl, rfl⟩ | ⟨E, hE, rfl, rfl, rfl, rfl⟩
  · cases e9
    have hI1 := hI.cl hb hh1 hf1
    have e2 := hI1.2.2.1
    have hW := hI1.hW
    rw [e2] at hV
    refine qw_istore dL_law_573 rfl (by decide) ?_
    refine qw_aload_n 2 dL_law_575 rfl rfl ?_
    refine qw_aload_n 0 dL_law_576 rfl rfl ?_
    refine qw_iload dL_law_577 rfl ?_
    refine qw_iconst (nI 1) dL_law_579 (by decide) ?_
    refine qw_addN dL_law_580 ?_
    refine qw_xald hX dL_law_581 (by omega) (by omega) ?_
    refine qw_aload_n 0 dL_law_582 rfl rfl ?_
    refine qw_iload dL_law_583 rfl ?_
    refine qw_iconst (nI 2) dL_law_585 (by decide) ?_
    refine qw_addN dL_law_586 ?_
    refine qw_xald hX dL_law_587 (by omega) (by omega) ?_
    refine qw_cvi [_, _] (k_X9_isBanned h9 hI1.hW) mL_125 dL_law_588 h9.1 rfl rfl rfl (Nat.le_of_ble_eq_true rfl) (by omega) (by decide) rfl (fun x2 M2 h2 => ?_)
    obtain ⟨hV2, rfl⟩ := h2.resolve_right (fun ⟨e, hE2, _⟩ => an_isBanned hW hV hE2)
    obtain rfl := ag_isBanned hW hV hV2
    refine qw_istore dL_law_591 rfl (by decide) ?_
    refine qw_aload_n 2 dL_law_593 rfl rfl ?_
    refine qw_cvp [] (k_X9_thrown h9) mL_97 dL_law_594 h9.1 rfl rfl rfl (Nat.le_of_ble_eq_true rfl) (by omega) (by decide) rfl ?_
    rw [lq_up_s]
    refine qw_iload dL_law_597 rfl ?_
    refine qw_icmp_eq 604 dL_law_599 (by decide) (fun c599 => ?_) (fun c599 => absurd rfl c599)
    refine qw_iload dL_law_604 rfl ?_
    refine qw_if_ne 628 dL_law_606 (by decide) (fun c606 => absurd rfl c606) (fun c606 => ?_)
    refine qw_aload_n 3 dL_law_609 rfl rfl ?_
    refine qw_iconst (nI 0) dL_law_610 (by decide) ?_
    refine qw_lald dL_law_611 hO (by omega) (by omega) ?_
    rw [lq_up_s]
    refine qw_iload dL_law_612 rfl ?_
    refine qw_if_eq 621 dL_law_614 (by decide) (fun c614 => ?_) (fun c614 => ?_)
    · refine qw_lconst (0) dL_law_621 (by decide) ?_
      rw [show ((fun x : Int32 => if x = 0 then (0 : Int64) else 1) x2) = 0 from if_pos c614]
      refine qw_lcmp dL_law_622 ?_
      rw [q_lc]
      refine qw_if_eq 628 dL_law_623 (by decide) (fun c623 => ?_) (fun c623 => absurd rfl c623)
      refine qw_goto 1729 dL_law_628 (by decide) ?_
      exact qw_weak _ (by simp [lq_le]) (LW.room (by omega) (by omega) (kk _ _ _ _ _ _ _ _ hsh (hI1.up hb 0)))
    · refine qw_lconst (1) dL_law_617 (by decide) ?_
      refine qw_goto 622 dL_law_618 (by decide) ?_
      rw [show ((fun x : Int32 => if x = 0 then (0 : Int64) else 1) x2) = 1 from if_neg c614]
      refine qw_lcmp dL_law_622 ?_
      rw [q_lc]
      refine qw_if_eq 628 dL_law_623 (by decide) (fun c623 => ?_) (fun c623 => absurd rfl c623)
      refine qw_goto 1729 dL_law_628 (by decide) ?_
      exact qw_weak _ (by simp [lq_le]) (LW.room (by omega) (by omega) (kk _ _ _ _ _ _ _ _ hsh (hI1.up hb 0)))
  · have e2 := hI.2.2.1
    have hW := hI.hW
    refine qw_istore dL_law_573 rfl (by decide) ?_
    refine qw_aload_n 2 dL_law_575 rfl rfl ?_
    refine qw_aload_n 0 dL_law_576 rfl rfl ?_
    refine qw_iload dL_law_577 rfl ?_
    refine qw_iconst (nI 1) dL_law_579 (by decide) ?_
    refine qw_addN dL_law_580 ?_
    refine qw_xald hX dL_law_581 (by omega) (by omega) ?_
    refine qw_aload_n 0 dL_law_582 rfl rfl ?_
    refine qw_iload dL_law_583 rfl ?_
    refine qw_iconst (nI 2) dL_law_585 (by decide) ?_
    refine qw_addN dL_law_586 ?_
    refine qw_xald hX dL_law_587 (by omega) (by omega) ?_
    refine qw_cvi [_, _] (k_X9_isBanned h9 hI.hW) mL_125 dL_law_588 h9.1 rfl rfl rfl (Nat.le_of_ble_eq_true rfl) (by omega) (by decide) rfl (fun x2 M2 h2 => ?_)
    obtain ⟨e, hE2, rfl⟩ := h2.resolve_left (fun h => ap_isBanned hW h.1 hE)
    obtain ⟨hee, hne⟩ := ae_isBanned hW hE hE2
    refine qw_istore dL_law_591 rfl (by decide) ?_
    refine qw_aload_n 2 dL_law_593 rfl rfl ?_
    refine qw_cvp [] (k_X9_thrown h9) mL_97 dL_law_594 h9.1 rfl rfl rfl (Nat.le_of_ble_eq_true rfl) (by omega) (by decide) rfl ?_
    rw [lq_up_s]
    refine qw_iload dL_law_597 rfl ?_
    rw [← hee]
    refine qw_icmp_eq 604 dL_law_599 (by decide) (fun c599 => ?_) (fun c599 => absurd rfl c599)
    refine qw_iload dL_law_604 rfl ?_
    refine qw_if_ne 628 dL_law_606 (by decide) (fun c606 => ?_) (fun c606 => absurd c606 hne)
    refine qw_goto 1729 dL_law_628 (by decide) ?_
    exact qw_weak _ (by simp [lq_le]) (LW.room (by omega) (by omega) (kk _ _ _ _ _ _ _ _ hsh (hI.up hb e)))
theorem c_load {a b m o L i u kc ks : Nat} {xs : Nat → Int32} (hX : va_X a L xs (lq_u G) (lq_u G).heap) (hL : L ≤ 3072) (hNC : q_NC G) (hb : b + 1607 ≤ m) (hm : m + 273 ≤ o) (hi : i + 6 ≤ L) {H : Nat → Nat → Nat} {tk : Nat → Nat → Nat × Nat} {n : Nat → Nat} (hsh : q_sh9 S b m o) (hI : q_I b m u H tk n M) {Q : lq_P} (kk : ∀ (z1 : Nat) (S1 : lq_S) (M1 : lq_M) (N1 : lq_N) (u1 : Nat) (H1 : Nat → Nat → Nat) (tk1 : Nat → Nat → Nat × Nat) (n1 : Nat → Nat), q_sh9 S1 b m o → q_I b m u1 H1 tk1 n1 M1 → LW G YL_law 30 kc ks Q lq_no z1 S1 M1 N1 1729 [some (.ref a), some (.ref b), some (.ref m), some (.ref o), some (.int (nI i)), none, none] []) {v : Value} (hXs : lq_sx G v) : LW G YL_law 30 (kc + 3) (ks + 18) Q lq_no z S M N 245 [some (.ref a), some (.ref b), some (.ref m), some (.ref o), some (.int (nI i)), none, none] [] := by
  obtain ⟨⟨F, fp, fb, h8⟩, ⟨x0, nb0, h5⟩, ⟨fD, σD, hD⟩, ⟨fh, fo, h9⟩, hO⟩ := id hsh
  have hf := hI.2.2.2.2.1
  have h80 := hI.2.2.2.2.2.1
  have hbu := hI.2.2.2.2.2.2.1
  refine qw_aload_n 1 dL_law_245 rfl rfl ?_
  refine qw_aload_n 0 dL_law_246 rfl rfl ?_
  refine qw_iload dL_law_247 rfl ?_
  refine qw_iconst (nI 1) dL_law_249 (by decide) ?_
  refine qw_addN dL_law_250 ?_
  refine qw_xald hX dL_law_251 (by omega) (by omega) ?_
  refine qw_aload_n 3 dL_law_252 rfl rfl ?_
  refine lq_callSH (As := [.ref b, .int (xs (i + 1)), .ref o]) (k_L_load hNC h8.1 (k_X8_load h8 h5 hD hXs (by omega) (fun j hj => by rw [(hbu j).1]; exact (hbu j).2) hI.1) (fun r z1 S1 M1 N1 hq => by obtain ⟨-, -, y1, f1, σ1, l, rfl, -, -, -, -, eS, -⟩ := hq; exact ⟨⟨y1, rfl⟩, by rw [eS o (by omega) (by omega)]; exact hO⟩) (fun E hE => hE.1)) sL_91 dL_law_253 rfl rfl (Nat.le_of_ble_eq_true rfl) (by decide) (by decide) (by omega) (by omega) rfl (fun _ _ _ _ _ h => h.elim) (fun r z1 S1 M1 N1 hw => ?_)
  rcases hw with ⟨x1, N0, ⟨rfl, rfl, y1, f1, σ1, l, e9, hl, elen, h51, hD1, eS, hz1, hout, hres⟩, rfl, rfl⟩ | ⟨E, hE, rfl, rfl, rfl, rfl⟩
  · cases e9
    have h9S : sh9 S1 m fh fo := h9.eqS (fun c c1 c2 => eS c (by omega) (by omega))
    have hsh1 : q_sh9 S1 b m o := ⟨⟨F, fp, fb, h8.eqS (fun c c1 c2 c3 c4 => eS c c3 c4)⟩, ⟨_, _, h51⟩, ⟨f1, σ1, hD1⟩, ⟨fh, fo, h9S⟩, by rw [eS o (by omega) (by omega)]; exact hO⟩
    have hO1 := hsh1.2.2.2.2
    have em : M1 m = M m := hout m (by omega)
    have e2 : H 0 = M1 (m + 2) := by rw [hout (m + 2) (by omega)]; exact hI.2.2.1
    have hr1 : q_hr M1 m u H := by obtain ⟨k1, k2, k3⟩ := hI.2.1; exact ⟨by rw [em]; exact k1, k2, fun j j1 j2 k hk => by rw [hout _ (by omega)]; exact k3 j j1 j2 k hk⟩
    have et : M1 (m + 1) = M (b + 1) := by rw [hout (m + 1) (by omega)]; exact funext fun j => (hbu j).1.symm
    refine qw_istore dL_law_256 rfl (by decide) ?_
    refine qw_aload_n 2 dL_law_258 rfl rfl ?_
    refine qw_aload_n 0 dL_law_259 rfl rfl ?_
    refine qw_iload dL_law_260 rfl ?_
    refine qw_iconst (nI 1) dL_law_262 (by decide) ?_
    refine qw_addN dL_law_263 ?_
    refine qw_xald hX dL_law_264 (by omega) (by omega) ?_
    refine qw_cvi [_] (k_X9_load h9S hXs (by rw [em]; exact h80) (fun j hj => by rw [hout (m + 1) (by omega)]; exact (hbu j).2) (u := u) (H := H) hr1 e2) mL_96 dL_law_265 h9S.1 rfl rfl rfl (Nat.le_of_ble_eq_true rfl) (by omega) (by decide) rfl (fun x2 M2 h2 => ?_)
    obtain ⟨l2, hl2, el2, w0, w2, w3, w4, w5⟩ := h2.resolve_right (fun q => q.1 ⟨l, Nat.zero_le _, by rw [em]; omega, elen⟩)
    rw [em] at hl2
    obtain rfl := nI_j elen el2 (by omega) (by omega)
    rw [et] at w5
    rw [lq_up_s] at w2
    have w4 : M2 (m + 1) = M1 (m + 1) := by rw [w4, lq_up_n _ _ _ (by omega)]
    have w3 : ∀ c, c < m ∨ m + 273 ≤ c → M2 c = M1 c := fun c hc => by rw [w3 c hc, lq_up_n _ _ _ (by omega)]
    cases hp : p_set (M (b + 1)) l with
    | inl y0 =>
      rw [hp] at w5 hres
      obtain ⟨r1, r2, r3⟩ := hres
      obtain ⟨v1, v2, v3, v4⟩ := w5
      rw [lq_up_n _ _ _ (by omega)] at v3
      obtain rfl : x2 = x1 := by rw [v1, r1]
      refine qw_istore dL_law_268 rfl (by decide) ?_
      refine qw_aload_n 2 dL_law_270 rfl rfl ?_
      refine qw_cvp [] (k_X9_thrown h9S) mL_97 dL_law_271 h9S.1 rfl rfl rfl (Nat.le_of_ble_eq_true rfl) (by omega) (by decide) rfl ?_
      rw [w0]
      refine qw_iload dL_law_274 rfl ?_
      refine qw_icmp_eq 281 dL_law_276 (by decide) (fun c276 => ?_) (fun c276 => absurd rfl c276)
      refine qw_iload dL_law_281 rfl ?_
      refine qw_if_ne 298 dL_law_283 (by decide) (fun c283 => absurd rfl c283) (fun c283 => ?_)
      refine qw_aload_n 3 dL_law_286 rfl rfl ?_
      refine qw_iconst (nI 0) dL_law_287 (by decide) ?_
      refine qw_lald dL_law_288 hO1 (by omega) (by omega) ?_
      rw [lq_up_s]
      refine qw_iload dL_law_289 rfl ?_
      refine qw_i2l _ dL_law_291 rfl ?_
      refine qw_lcmp dL_law_292 ?_
      rw [q_lc]
      refine qw_if_eq 298 dL_law_293 (by decide) (fun c293 => ?_) (fun c293 => absurd rfl c293)
      refine qw_goto 1729 dL_law_298 (by decide) ?_
      exact qw_weak _ (by simp [lq_le]) (LW.room (by omega) (by omega) (kk _ _ _ _ _ _ _ _ hsh1 (hI.ld hb hout hz1 r2 w2 v2 w3 w4 r3 v4 (by rw [v3]; exact e2) hI.2.2.2.1)))
    | inr s =>
      rw [hp] at w5 hres
      obtain ⟨r1, r2, r3⟩ := hres
      obtain ⟨v1, v2, v4, v5, v6⟩ := w5
      obtain rfl : x2 = x1 := by rw [v1, r1]
      have hw := p_set_w (by omega) hp
      have hH2 : q_hr M2 m (min (u + 1) 8) (q_h0 (M2 (m + 2)) (q_nw s.2.1 H)) := ⟨v4.1, v4.2.1, fun j j1 j2 k hk => by rw [v4.2.2 j j1 j2 k hk, q_h0, if_neg (by omega), q_nw, if_neg (by omega), q_sh]⟩
      have hcx : ∀ j, j ≤ min (u + 1) 8 → q_cx (q_h0 (M2 (m + 2)) (q_nw s.2.1 H) j) (q_nw s.2.2.2.2.2 tk j) (q_nw s.2.2.2.2.1 n j) := fun j hj => by
        unfold q_h0 q_nw
        by_cases q : j = 0
        · rw [if_pos q, if_pos q, if_pos q]; exact Or.inl ⟨hw.2.2.2.2.2.1, hw.2.2.2.2.2.2, v6⟩
        · rw [if_neg q, if_neg q, if_neg q, if_neg q]; exact hI.2.2.2.1 (j - 1) (by omega)
      refine qw_istore dL_law_268 rfl (by decide) ?_
      refine qw_aload_n 2 dL_law_270 rfl rfl ?_
      refine qw_cvp [] (k_X9_thrown h9S) mL_97 dL_law_271 h9S.1 rfl rfl rfl (Nat.le_of_ble_eq_true rfl) (by omega) (by decide) rfl ?_
      rw [w0]
      refine qw_iload dL_law_274 rfl ?_
      refine qw_icmp_eq 281 dL_law_276 (by decide) (fun c276 => ?_) (fun c276 => absurd rfl c276)
      refine qw_iload dL_law_281 rfl ?_
      refine qw_if_ne 298 dL_law_283 (by decide) (fun c283 => absurd rfl c283) (fun c283 => ?_)
      refine qw_aload_n 3 dL_law_286 rfl rfl ?_
      refine qw_iconst (nI 0) dL_law_287 (by decide) ?_
      refine qw_lald dL_law_288 hO1 (by omega) (by omega) ?_
      rw [lq_up_s]
      refine qw_iload dL_law_289 rfl ?_
      refine qw_i2l _ dL_law_291 rfl ?_
      refine qw_lcmp dL_law_292 ?_
      rw [q_lc]
      refine qw_if_eq 298 dL_law_293 (by decide) (fun c293 => ?_) (fun c293 => absurd rfl c293)
      refine qw_goto 1729 dL_law_298 (by decide) ?_
      exact qw_weak _ (by simp [lq_le]) (LW.room (by omega) (by omega) (kk _ _ _ _ _ _ _ _ hsh1 (hI.ld hb hout hz1 r2 w2 v2 w3 w4 (r3.re (g := M2 (m + 2)) (fun k k1 k2 k3 k4 => v5 k k1 k2 k3 k4)) hH2 rfl hcx)))
  · have e2 := hI.2.2.1
    refine qw_istore dL_law_256 rfl (by decide) ?_
    refine qw_aload_n 2 dL_law_258 rfl rfl ?_
    refine qw_aload_n 0 dL_law_259 rfl rfl ?_
    refine qw_iload dL_law_260 rfl ?_
    refine qw_iconst (nI 1) dL_law_262 (by decide) ?_
    refine qw_addN dL_law_263 ?_
    refine qw_xald hX dL_law_264 (by omega) (by omega) ?_
    refine qw_cvi [_] (k_X9_load h9 hXs h80 (fun j hj => (hbu j).2) (u := u) (H := H) hI.2.1 hI.2.2.1) mL_96 dL_law_265 h9.1 rfl rfl rfl (Nat.le_of_ble_eq_true rfl) (by omega) (by decide) rfl (fun x2 M2 h2 => ?_)
    obtain ⟨hE2, rfl⟩ := h2.resolve_left (fun ⟨l, hl, el, _⟩ => hE.2 ⟨l, Nat.zero_le _, by omega, el⟩)
    have hee : 1 = q_cod [eIA] E := by rw [hE.1]; decide +kernel
    refine qw_istore dL_law_268 rfl (by decide) ?_
    refine qw_aload_n 2 dL_law_270 rfl rfl ?_
    refine qw_cvp [] (k_X9_thrown h9) mL_97 dL_law_271 h9.1 rfl rfl rfl (Nat.le_of_ble_eq_true rfl) (by omega) (by decide) rfl ?_
    rw [lq_up_s]
    refine qw_iload dL_law_274 rfl ?_
    rw [← hee]
    refine qw_icmp_eq 281 dL_law_276 (by decide) (fun c276 => ?_) (fun c276 => absurd rfl c276)
    refine qw_iload dL_law_281 rfl ?_
    refine qw_if_ne 298 dL_law_283 (by decide) (fun c283 => ?_) (fun c283 => absurd c283 (by decide))
    refine qw_goto 1729 dL_law_298 (by decide) ?_
    exact qw_weak _ (by simp [lq_le]) (LW.room (by omega) (by omega) (kk _ _ _ _ _ _ _ _ hsh (hI.up hb 1)))
end LB
