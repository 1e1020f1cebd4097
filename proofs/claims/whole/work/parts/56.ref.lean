/-! THE REFERENCE: its changing methods -/
theorem q_hr.th {M M1 : lq_M} {m u : Nat} {H : Nat → Nat → Nat} (e : lq_up M m 0 0 = M1) (h : q_hr M m u H) : q_hr M1 m u H := by
  subst e
  exact ⟨by rw [lq_up_c _ _ (by decide)]; exact h.1, h.2.1, fun j j1 j2 k hk => by rw [lq_up_n _ _ _ (by omega)]; exact h.2.2 j j1 j2 k hk⟩
theorem q_mf.th {m : Nat} {M M1 M2 : lq_M} (e : lq_up M m 0 0 = M1) (h : q_mf m M1 M2) : q_mf m M M2 := by
  subst e
  exact ⟨fun b hb => by rw [h.1 b hb, lq_up_n _ _ _ (by omega)], by rw [h.2.1, lq_up_n _ _ _ (by omega)], fun j j0 j1 => by rw [h.2.2 j j0 j1, lq_up_c _ _ j0]⟩
theorem q_mut.th {m u : Nat} {H : Nat → Nat → Nat} {M M1 M2 : lq_M} {g : Nat → Nat} (e : lq_up M m 0 0 = M1) (h : q_mut m u H M1 M2 g) : q_mut m u H M M2 g := ⟨h.1, h.2.1, h.2.2.1, h.2.2.2.th e⟩
/-- a reading method that uses its work rows -/
def q_rpw (m : Nat) (M M2 : lq_M) (V : Prop) (E : Nat → Prop) : Prop := (V ∧ M2 m 0 = 0 ∧ (∀ j, j ≠ 0 → M2 m j = M m j) ∧ ∀ b, b ≠ m → b < m + 15 ∨ m + 273 ≤ b → M2 b = M b) ∨ ∃ e, E e ∧ M2 = lq_up M m 0 e
section R8
variable {G : lq_G} {z : Nat} {S : lq_S} {M : lq_M} {N : lq_N} {m : Nat} {fh fo : Nat → Option Nat}
theorem k_X9_reasonOf_g (h9 : sh9 S m fh fo) {g : Nat → Nat} (hg : M (m + 2) = g) (hW : g_wf (g)) {i : Nat} (hi : i < g 0) {s : Nat} (hs : s < g 1) {l : Nat} (hl : l ≤ 60) : LM G YX9_reasonOf 4 0 0 [.ref m, .int (nI s), .int (nI l), .int (nI i)] z S M N (lq_pu z S M N (.int (nI (g_rs (g) s l i)))) lq_no := by
  subst hg
  exact k_X9_reasonOf h9 hW hi hs hl
theorem k_X9_placeFor_g (h9 : sh9 S m fh fo) {g : Nat → Nat} (hg : M (m + 2) = g) (hW : g_wf (g)) {i : Nat} (hi : i < g 0) {s : Nat} (hs : s < g 1) : LM G YX9_placeFor 2 0 0 [.ref m, .int (nI s), .int (nI i)] z S M N (lq_pu z S M N (.int (if g_pf (g) s i = g (12 + 30 * i) + 1 then -1 else nI (g_pf (g) s i)))) lq_no := by
  subst hg
  exact k_X9_placeFor h9 hW hi hs
theorem k_X9_priceOf_g (h9 : sh9 S m fh fo) {g : Nat → Nat} (hg : M (m + 2) = g) (hW : g_wf (g)) {tk : Nat → Nat × Nat} {n : Nat} (hF : q_fwf tk n) (hn : n ≤ 800) (hC : q_cd (g) tk n) {s l i : Nat} (hs : s < g 1) (hl : l ≤ 60) (hi : i < g 0) : LM G YX9_priceOf 4 0 0 [.ref m, .int (nI s), .int (nI l), .int (nI i)] z S M N (lq_mn z S (fun x M1 N1 => x = nI (g_pc (g) tk n s l i) ∧ M1 = M ∧ q_nf m N N1)) lq_no := by
  subst hg
  exact k_X9_priceOf h9 hW hF hn hC hs hl hi
theorem k_X9_findCheapest_g (h9 : sh9 S m fh fo) {g : Nat → Nat} (hg : M (m + 2) = g) (hW : g_wf (g)) {tk : Nat → Nat × Nat} {n : Nat} (hF : q_fwf tk n) (hn : n ≤ 800) (hC : q_cd (g) tk n) {s l : Nat} (hs : s < g 1) (hl : l ≤ 60) : LM G YX9_findCheapest 5 0 0 [.ref m, .int (nI s), .int (nI l)] z S M N (lq_mn z S (fun x M1 N1 => x = q_m1 (g_chp (g) tk n s l (g 0)).1 ∧ M1 = M ∧ q_nf m N N1)) lq_no := by
  subst hg
  exact k_X9_findCheapest h9 hW hF hn hC hs hl
theorem k_X9_books (h9 : sh9 S m fh fo) (hW : g_wf (M (m + 2))) {tk : Nat → Nat × Nat} {n : Nat} (hF : q_fwf tk n) (hn : n ≤ 800) (hC : q_cd (M (m + 2)) tk n) {s l i : Nat} (hs : s < M (m + 2) 1) (hl : l ≤ 60) (hi : i < M (m + 2) 0) (h0 : g_rs (M (m + 2)) s l i = 0) : LM G YX9_books 5 0 0 [.ref m, .int (nI s), .int (nI l), .int (nI i)] z S M N (lq_mn z S (fun x M1 N1 => x = nI (g_pf (M (m + 2)) s i) ∧ M1 (m + 2) = g_bk (M (m + 2)) tk n s l i ∧ (∀ b, b ≠ m + 2 → M1 b = M b) ∧ q_nf m N N1)) lq_no := by
  have hok := g_rs_ok h0
  have hpl := g_pf_le (M (m + 2)) s i
  have h20 := hW.nb
  have h7 := hW.seven hi hs hok.2.1
  refine LM.of (by decide) rfl [some (.ref m), some (.int (nI s)), some (.int (nI l)), some (.int (nI i)), none, none] rfl (Nat.le_of_ble_eq_true rfl) ?_
  refine qw_aload_n 0 dX9_books_0 rfl rfl ?_
  refine qw_iload_n 1 dX9_books_1 rfl rfl ?_
  refine qw_iload_n 3 dX9_books_2 rfl rfl ?_
  refine qw_cvp [_, _] (k_X9_placeFor h9 hW hi hs) mX9_205 dX9_books_3 h9.1 rfl rfl rfl (Nat.le_of_ble_eq_true rfl) (by omega) (by decide) rfl ?_
  rw [if_neg hok.2.2.2.2]
  refine qw_istore dX9_books_6 rfl (by decide) ?_
  refine qw_aload_n 0 dX9_books_8 rfl rfl ?_
  refine qw_iload_n 1 dX9_books_9 rfl rfl ?_
  refine qw_iload_n 2 dX9_books_10 rfl rfl ?_
  refine qw_iload_n 3 dX9_books_11 rfl rfl ?_
  refine qw_cvn [_, _, _] (k_X9_priceOf h9 hW hF hn hC hs hl hi) mX9_229 dX9_books_12 h9.1 rfl rfl rfl (Nat.le_of_ble_eq_true rfl) (by omega) (by decide) rfl (fun x1 M1 N1 h1 => ?_)
  obtain ⟨rfl, hz, hnf⟩ := h1
  rw [hz]
  refine qw_istore dX9_books_15 rfl (by decide) ?_
  refine qw_aload_n 0 dX9_books_17 rfl rfl ?_
  refine qw_iload_n 3 dX9_books_18 rfl rfl ?_
  refine qw_iload dX9_books_19 rfl ?_
  refine qw_iload_n 1 dX9_books_21 rfl rfl ?_
  refine qw_iload_n 2 dX9_books_22 rfl rfl ?_
  refine qw_iload dX9_books_23 rfl ?_
  refine qw_cvv [_, _, _, _, _] (k_X9_put h9 (by omega) (by omega) h7 rfl) mX9_265 dX9_books_25 h9.1 rfl rfl rfl (Nat.le_of_ble_eq_true rfl) (by omega) (by decide) rfl (fun M2 h2 => ?_)
  refine qw_aload_n 0 dX9_books_28 rfl rfl ?_
  refine qw_getr fX9_17 dX9_books_29 h9.1 rfl ?_
  refine qw_bipush (nI 6) dX9_books_32 (by decide) ?_
  refine qw_dup2 dX9_books_34 rfl rfl ?_
  refine qw_iald dX9_books_35 h9.da (by omega) (by omega) ?_
  refine qw_iload dX9_books_36 rfl ?_
  refine qw_addN dX9_books_38 ?_
  refine qw_iast dX9_books_39 h9.da (by omega) (by omega) ?_
  refine qw_iload dX9_books_40 rfl ?_
  exact qw_ireturn rfl rfl dX9_books_42 ⟨rfl, rfl, _, rfl, rfl, by rw [g_bk, if_pos h0, lq_up_a, h2.1]; rfl, fun b hb => by rw [lq_up_n _ _ _ hb]; exact h2.2 b hb, hnf⟩
theorem k_X9_books_g (h9 : sh9 S m fh fo) {g : Nat → Nat} (hg : M (m + 2) = g) (hW : g_wf (g)) {tk : Nat → Nat × Nat} {n : Nat} (hF : q_fwf tk n) (hn : n ≤ 800) (hC : q_cd (g) tk n) {s l i : Nat} (hs : s < g 1) (hl : l ≤ 60) (hi : i < g 0) (h0 : g_rs (g) s l i = 0) : LM G YX9_books 5 0 0 [.ref m, .int (nI s), .int (nI l), .int (nI i)] z S M N (lq_mn z S (fun x M1 N1 => x = nI (g_pf (g) s i) ∧ M1 (m + 2) = g_bk (g) tk n s l i ∧ (∀ b, b ≠ m + 2 → M1 b = M b) ∧ q_nf m N N1)) lq_no := by
  subst hg
  exact k_X9_books h9 hW hF hn hC hs hl hi h0
theorem k_X9_book (h9 : sh9 S m fh fo) (hW : g_wf (M (m + 2))) {tk : Nat → Nat × Nat} {n : Nat} (hF : q_fwf tk n) (hn : n ≤ 800) (hC : q_cd (M (m + 2)) tk n) {u : Nat} {H : Nat → Nat → Nat} (hH : q_hr M m u H) (hd : H 0 = M (m + 2)) {s l i : Int32} : LM G YX9_book 6 0 0 [.ref m, .int s, .int l, .int i] z S M N (lq_mn z S (fun x M3 N2 => ((∃ ks kl ki, ks < M (m + 2) 1 ∧ 5 ≤ kl ∧ kl ≤ 60 ∧ ki < M (m + 2) 0 ∧ s = nI ks ∧ l = nI kl ∧ i = nI ki ∧ x = g_bkr (M (m + 2)) ks kl ki ∧ q_mut m u H M M3 (g_bk (M (m + 2)) tk n ks kl ki)) ∨ ∃ e, (q_rqX (M (m + 2)) s l i e) ∧ M3 = lq_up M m 0 e) ∧ q_nf m N N2)) lq_no := by
  refine LM.of (by decide) rfl [some (.ref m), some (.int s), some (.int l), some (.int i), none] rfl (Nat.le_of_ble_eq_true rfl) ?_
  refine qw_aload_n 0 dX9_book_0 rfl rfl ?_
  refine qw_iconst (nI 0) dX9_book_1 (by decide) ?_
  refine qw_puti fX9_41 dX9_book_2 h9.1 rfl ?_
  have hM0 := lq_up_s M m 0 0
  have hMd := lq_up_n M (a := m) (b := m + 2) 0 0 (by omega)
  have hMu := fun e => lq_up_up M m 0 0 e
  have hMr := fun b (hb : b ≠ m) => lq_up_n M (a := m) (b := b) 0 0 hb
  have hMm := fun j (hj : j ≠ 0) => lq_up_c M (a := m) (k := 0) (j := j) 0 hj
  revert hM0 hMd hMu hMr hMm
  generalize hM1 : lq_up M m 0 0 = M1
  intro h0 hMd hMu hMr hMm
  have hW1 : g_wf (M1 (m + 2)) := by rw [hMd]; exact hW
  have h20 := hW1.nb
  have h8 := hW1.ns
  have h160 := hW1.no
  have hH1 : q_hr M1 m u H := hH.th hM1
  have hd1 : H 0 = M1 (m + 2) := by rw [hMd]; exact hd
  have hC1 : q_cd (M1 (m + 2)) tk n := by rw [hMd]; exact hC
  refine qw_aload_n 0 dX9_book_5 rfl rfl ?_
  refine qw_iload_n 1 dX9_book_6 rfl rfl ?_
  refine qw_iload_n 2 dX9_book_7 rfl rfl ?_
  refine qw_iload_n 3 dX9_book_8 rfl rfl ?_
  refine qw_cvi [_, _, _] (k_X9_noRequest h9 h0 (by omega) (by omega)) mX9_244 dX9_book_9 h9.1 rfl rfl rfl (Nat.le_of_ble_eq_true rfl) (by omega) (by decide) rfl (fun x1 M2 h1 => ?_)
  rcases h1 with ⟨v1, v2, v3, rfl, hz⟩ | ⟨e, v1, rfl, hz⟩ <;> rw [hz]
  · obtain ⟨ks, hs, rfl⟩ := v1
    obtain ⟨ki, hi, rfl⟩ := v2
    obtain ⟨kl, hl1, hl2, rfl⟩ := v3
    refine qw_if_eqN 17 dX9_book_12 (by decide) (by omega) (fun c12 => ?_) (fun c12 => absurd rfl c12)
    skip
    refine qw_aload_n 0 dX9_book_17 rfl rfl ?_
    refine qw_cvv [] (k_X9_remember h9 hH1 h0 hd1) mX9_178 dX9_book_18 h9.1 rfl rfl rfl (Nat.le_of_ble_eq_true rfl) (by omega) (by decide) rfl (fun M2 hmu => ?_)
    have e2 := hmu.1
    refine qw_aload_n 0 dX9_book_21 rfl rfl ?_
    refine qw_iload_n 1 dX9_book_22 rfl rfl ?_
    refine qw_iload_n 2 dX9_book_23 rfl rfl ?_
    refine qw_iload_n 3 dX9_book_24 rfl rfl ?_
    refine qw_cvp [_, _, _] (k_X9_reasonOf_g h9 e2 hW1 hi hs hl2) mX9_225 dX9_book_25 h9.1 rfl rfl rfl (Nat.le_of_ble_eq_true rfl) (by omega) (by decide) rfl ?_
    refine qw_istore dX9_book_28 rfl (by decide) ?_
    have hrl : g_rs (M1 (m + 2)) ks kl ki ≤ 5 := g_rs_le
    refine qw_iload dX9_book_30 rfl ?_
    refine qw_if_leN 41 dX9_book_32 (by decide) (by omega) (fun c32 => ?_) (fun c32 => ?_)
    · refine qw_aload_n 0 dX9_book_41 rfl rfl ?_
      refine qw_iload_n 1 dX9_book_42 rfl rfl ?_
      refine qw_iload_n 2 dX9_book_43 rfl rfl ?_
      refine qw_iload_n 3 dX9_book_44 rfl rfl ?_
      refine qw_cvn [_, _, _] (k_X9_books_g h9 e2 hW1 hF hn hC1 hs hl2 hi c32) mX9_269 dX9_book_45 h9.1 rfl rfl rfl (Nat.le_of_ble_eq_true rfl) (by omega) (by decide) rfl (fun x1 M3 N3 h3 => ?_)
      obtain ⟨rfl, h3g, h3q, hnf⟩ := h3
      exact qw_ireturn rfl rfl dX9_book_48 ⟨rfl, rfl, _, rfl, Or.inl (by rw [← hMd]; exact ⟨ks, kl, ki, hs, hl1, hl2, hi, rfl, rfl, rfl, by rw [g_bkr, if_pos c32], (hmu.go (q_dfr.of h3q) h3g).th hM1⟩), hnf⟩
    · refine qw_iload dX9_book_35 rfl ?_
      refine qw_ineg dX9_book_37 ?_
      refine qw_goto 48 dX9_book_38 (by decide) ?_
      exact qw_ireturn rfl rfl dX9_book_48 ⟨rfl, rfl, _, rfl, Or.inl (by rw [← hMd]; exact ⟨ks, kl, ki, hs, hl1, hl2, hi, rfl, rfl, rfl, by rw [g_bkr, if_neg (by omega)], (hmu.go q_dfr.rf (by rw [g_bk, if_neg (by omega)]; exact e2)).th hM1⟩), q_nf.rf⟩
  · refine qw_if_eqN 17 dX9_book_12 (by decide) (by omega) (fun c12 => absurd c12 (by decide)) (fun c12 => ?_)
    refine qw_iconst (nI 0) dX9_book_15 (by decide) ?_
    exact qw_ireturn rfl rfl dX9_book_16 ⟨rfl, rfl, _, rfl, Or.inr ⟨e, by rw [← hMd]; exact v1, hMu e⟩, q_nf.rf⟩
theorem k_X9_setCap (h9 : sh9 S m fh fo) (hW : g_wf (M (m + 2))) {u : Nat} {H : Nat → Nat → Nat} (hH : q_hr M m u H) (hd : H 0 = M (m + 2)) {s w : Int32} : LM G YX9_setCap 2 0 0 [.ref m, .int s, .int w] z S M N (lq_mn z S (fun x M3 N2 => ((∃ k v, k < M (m + 2) 1 ∧ 1 ≤ v ∧ v ≤ 9 ∧ s = nI k ∧ w = nI v ∧ x = nI (M (m + 2) (608 + 2 * k)) ∧ q_mut m u H M M3 (g_one (M (m + 2)) (608 + 2 * k) v)) ∨ ∃ e, ((e = 1 ∧ ¬ q_ix s (M (m + 2) 1)) ∨ (e = 2 ∧ q_ix s (M (m + 2) 1) ∧ ¬ q_rg w 1 9)) ∧ M3 = lq_up M m 0 e) ∧ q_nf m N N2)) lq_no := by
  refine LM.of (by decide) rfl [some (.ref m), some (.int s), some (.int w), none] rfl (Nat.le_of_ble_eq_true rfl) ?_
  refine qw_aload_n 0 dX9_setCap_0 rfl rfl ?_
  refine qw_iconst (nI 0) dX9_setCap_1 (by decide) ?_
  refine qw_puti fX9_41 dX9_setCap_2 h9.1 rfl ?_
  have hM0 := lq_up_s M m 0 0
  have hMd := lq_up_n M (a := m) (b := m + 2) 0 0 (by omega)
  have hMu := fun e => lq_up_up M m 0 0 e
  have hMr := fun b (hb : b ≠ m) => lq_up_n M (a := m) (b := b) 0 0 hb
  have hMm := fun j (hj : j ≠ 0) => lq_up_c M (a := m) (k := 0) (j := j) 0 hj
  revert hM0 hMd hMu hMr hMm
  generalize hM1 : lq_up M m 0 0 = M1
  intro h0 hMd hMu hMr hMm
  have hW1 : g_wf (M1 (m + 2)) := by rw [hMd]; exact hW
  have h20 := hW1.nb
  have h8 := hW1.ns
  have h160 := hW1.no
  have hH1 : q_hr M1 m u H := hH.th hM1
  have hd1 : H 0 = M1 (m + 2) := by rw [hMd]; exact hd
  refine qw_aload_n 0 dX9_setCap_5 rfl rfl ?_
  refine qw_iload_n 1 dX9_setCap_6 rfl rfl ?_
  refine qw_cvi [_] (k_X9_noSponsor h9 h0 (by omega)) mX9_232 dX9_setCap_7 h9.1 rfl rfl rfl (Nat.le_of_ble_eq_true rfl) (by omega) (by decide) rfl (fun x1 M2 h1 => ?_)
  rcases h1 with ⟨v1, rfl, hz⟩ | ⟨v1, rfl, hz⟩ <;> rw [hz]
  · refine qw_if_neN 36 dX9_setCap_10 (by decide) (by omega) (fun c10 => absurd rfl c10) (fun c10 => ?_)
    refine qw_aload_n 0 dX9_setCap_13 rfl rfl ?_
    refine qw_iload_n 2 dX9_setCap_14 rfl rfl ?_
    refine qw_iconst (nI 1) dX9_setCap_15 (by decide) ?_
    refine qw_bipush (nI 9) dX9_setCap_16 (by decide) ?_
    refine qw_csp [_, _, _] (k_X9_in) mX9_66 dX9_setCap_18 rfl rfl (Nat.le_of_ble_eq_true rfl) (by omega) (by decide) rfl ?_
    rw [q_inrg (by decide) (by decide)]
    refine qw_if_neN 28 dX9_setCap_21 (by decide) (Nat.lt_of_le_of_lt q_b_le (by decide)) (fun c21 => ?_) (fun c21 => ?_)
    · refine qw_iconst (nI 0) dX9_setCap_28 (by decide) ?_
      refine qw_iconst (nI 2) dX9_setCap_29 (by decide) ?_
      refine qw_cvi [_, _] (k_X9_fails h9 (by decide) (by decide) h0) mX9_166 dX9_setCap_30 h9.1 rfl rfl rfl (Nat.le_of_ble_eq_true rfl) (by omega) (by decide) rfl (fun x1 M2 h1 => ?_)
      obtain ⟨-, rfl, hz⟩ := h1.resolve_right (fun q => absurd q.1 (by decide))
      rw [hz]
      refine qw_if_eqN 38 dX9_setCap_33 (by decide) (by omega) (fun c33 => ?_) (fun c33 => absurd rfl c33)
      obtain ⟨k, hk, rfl⟩ := v1
      obtain ⟨v, hv1, hv2, rfl⟩ := q_b_ne c21
      refine qw_aload_n 0 dX9_setCap_38 rfl rfl ?_
      refine qw_cvv [] (k_X9_remember h9 hH1 h0 hd1) mX9_178 dX9_setCap_39 h9.1 rfl rfl rfl (Nat.le_of_ble_eq_true rfl) (by omega) (by decide) rfl (fun M2 hmu => ?_)
      have e2 := hmu.1
      refine qw_aload_n 0 dX9_setCap_42 rfl rfl ?_
      refine qw_getr fX9_17 dX9_setCap_43 h9.1 rfl ?_
      refine qw_sipush (nI 607) dX9_setCap_46 (by decide) ?_
      refine qw_iconst (nI 2) dX9_setCap_49 (by decide) ?_
      refine qw_iload_n 1 dX9_setCap_50 rfl rfl ?_
      refine qw_mulN dX9_setCap_51 ?_
      refine qw_addN dX9_setCap_52 ?_
      refine qw_iconst (nI 1) dX9_setCap_53 (by decide) ?_
      refine qw_addN dX9_setCap_54 ?_
      refine qw_iaj (608 + 2 * k) (by omega) dX9_setCap_55 h9.da (by omega) (by omega) ?_
      rw [e2]
      refine qw_istore_n 3 dX9_setCap_56 rfl rfl (by decide) ?_
      refine qw_aload_n 0 dX9_setCap_57 rfl rfl ?_
      refine qw_getr fX9_17 dX9_setCap_58 h9.1 rfl ?_
      refine qw_sipush (nI 607) dX9_setCap_61 (by decide) ?_
      refine qw_iconst (nI 2) dX9_setCap_64 (by decide) ?_
      refine qw_iload_n 1 dX9_setCap_65 rfl rfl ?_
      refine qw_mulN dX9_setCap_66 ?_
      refine qw_addN dX9_setCap_67 ?_
      refine qw_iconst (nI 1) dX9_setCap_68 (by decide) ?_
      refine qw_addN dX9_setCap_69 ?_
      refine qw_iload_n 2 dX9_setCap_70 rfl rfl ?_
      refine qw_iasj (608 + 2 * k) (by omega) dX9_setCap_71 h9.da (by omega) (by omega) ?_
      refine qw_iload_n 3 dX9_setCap_72 rfl rfl ?_
      exact qw_ireturn rfl rfl dX9_setCap_73 ⟨rfl, rfl, _, rfl, Or.inl (by rw [← hMd]; exact ⟨k, v, hk, hv1, hv2, rfl, rfl, rfl, (hmu.go (q_dfr.of (fun b hb => lq_up_n _ _ _ hb)) (by rw [lq_up_a, e2]; rfl)).th hM1⟩), q_nf.rf⟩
    · refine qw_iconst (nI 1) dX9_setCap_24 (by decide) ?_
      refine qw_goto 29 dX9_setCap_25 (by decide) ?_
      refine qw_iconst (nI 2) dX9_setCap_29 (by decide) ?_
      refine qw_cvi [_, _] (k_X9_fails h9 (by decide) (by decide) h0) mX9_166 dX9_setCap_30 h9.1 rfl rfl rfl (Nat.le_of_ble_eq_true rfl) (by omega) (by decide) rfl (fun x1 M2 h1 => ?_)
      obtain ⟨-, rfl, hz⟩ := h1.resolve_left (fun q => absurd q.1 (by decide))
      rw [hz]
      refine qw_if_eqN 38 dX9_setCap_33 (by decide) (by omega) (fun c33 => absurd c33 (by decide)) (fun c33 => ?_)
      refine qw_iconst (nI 0) dX9_setCap_36 (by decide) ?_
      exact qw_ireturn rfl rfl dX9_setCap_37 ⟨rfl, rfl, _, rfl, Or.inr ⟨2, by rw [← hMd]; exact Or.inr ⟨rfl, v1, q_b_eq c21⟩, hMu 2⟩, q_nf.rf⟩
  · refine qw_if_neN 36 dX9_setCap_10 (by decide) (by omega) (fun c10 => ?_) (fun c10 => absurd c10 (by decide))
    refine qw_iconst (nI 0) dX9_setCap_36 (by decide) ?_
    exact qw_ireturn rfl rfl dX9_setCap_37 ⟨rfl, rfl, _, rfl, Or.inr ⟨1, by rw [← hMd]; exact Or.inl ⟨rfl, v1⟩, hMu 1⟩, q_nf.rf⟩
theorem l_X9_air (h9 : sh9 S m fh fo) (hW : g_wf (M (m + 2))) {Q : lq_P} (kk : LW G YX9_air 2 0 0 Q lq_no z S M N 37 [some (.ref m), some (.int (nI (g_eo (M (m + 2)))))] []) : ∀ (n9 k : Nat), k ≤ M (m + 2) 0 → M (m + 2) 0 - k < n9 → (∀ j, j < k → M (m + 2) (11 + 30 * j) ≠ 0) → LW G YX9_air 2 0 0 Q lq_no z S M N 7 [some (.ref m), some (.int (nI k))] [] := by
  intro n9
  induction n9 with
  | zero => intro _ _ _ _; omega
  | succ n9 ih =>
    intro k hk hn9 hno
    have h20 := hW.nb
    refine qw_iload_n 1 dX9_air_7 rfl rfl ?_
    refine qw_aload_n 0 dX9_air_8 rfl rfl ?_
    refine qw_getr fX9_17 dX9_air_9 h9.1 rfl ?_
    refine qw_iconst (nI 0) dX9_air_12 (by decide) ?_
    refine qw_iald dX9_air_13 h9.da (by omega) (by omega) ?_
    refine qw_icmp_geN 37 dX9_air_14 (by decide) (by omega) (by omega) (fun c14 => ?_) (fun c14 => ?_)
    · have he : g_eo (M (m + 2)) = k := by rw [show k = M (m + 2) 0 by omega]; exact q_fst_miss (fun j hj => hno j (by omega))
      rw [he] at kk
      exact kk
    · have hb := hW.br (i := k) (by omega)
      refine qw_aload_n 0 dX9_air_17 rfl rfl ?_
      refine qw_getr fX9_17 dX9_air_18 h9.1 rfl ?_
      refine qw_iload_n 1 dX9_air_21 rfl rfl ?_
      refine qw_csp [_] (k_X9_at) mX9_44 dX9_air_22 rfl rfl (Nat.le_of_ble_eq_true rfl) (by omega) (by decide) rfl ?_
      refine qw_iconst (nI 4) dX9_air_25 (by decide) ?_
      refine qw_addN dX9_air_26 ?_
      refine qw_iaj (11 + 30 * k) (by omega) dX9_air_27 h9.da (by omega) (by omega) ?_
      refine qw_if_eqN 37 dX9_air_28 (by decide) (by omega) (fun c28 => ?_) (fun c28 => ?_)
      · have he : g_eo (M (m + 2)) = k := q_fst_hit (by omega) c28 hno
        rw [he] at kk
        exact kk
      · refine qw_iincN 1 dX9_air_31 rfl (by decide) rfl (by decide) ?_
        refine qw_goto 7 dX9_air_34 (by decide) ?_
        refine ih (k + 1) (by omega) (by omega) (fun j hj => ?_)
        rcases Nat.lt_or_ge j k with q | q
        · exact hno j q
        · rw [show j = k by omega]; exact c28
theorem k_X9_air (h9 : sh9 S m fh fo) (hW : g_wf (M (m + 2))) {u : Nat} {H : Nat → Nat → Nat} (hH : q_hr M m u H) (hd : H 0 = M (m + 2)) : LM G YX9_air 2 0 0 [.ref m] z S M N (lq_mi z S N (fun x M3 => (g_eo (M (m + 2)) < M (m + 2) 0 ∧ x = nI (M (m + 2) (12 + 30 * g_eo (M (m + 2)))) ∧ q_mut m u H M M3 (g_one (M (m + 2)) (11 + 30 * g_eo (M (m + 2))) 1)) ∨ (¬ g_eo (M (m + 2)) < M (m + 2) 0 ∧ M3 = lq_up M m 0 1))) lq_no := by
  refine LM.of (by decide) rfl [some (.ref m), none] rfl (Nat.le_of_ble_eq_true rfl) ?_
  refine qw_aload_n 0 dX9_air_0 rfl rfl ?_
  refine qw_iconst (nI 0) dX9_air_1 (by decide) ?_
  refine qw_puti fX9_41 dX9_air_2 h9.1 rfl ?_
  have hM0 := lq_up_s M m 0 0
  have hMd := lq_up_n M (a := m) (b := m + 2) 0 0 (by omega)
  have hMu := fun e => lq_up_up M m 0 0 e
  have hMr := fun b (hb : b ≠ m) => lq_up_n M (a := m) (b := b) 0 0 hb
  have hMm := fun j (hj : j ≠ 0) => lq_up_c M (a := m) (k := 0) (j := j) 0 hj
  revert hM0 hMd hMu hMr hMm
  generalize hM1 : lq_up M m 0 0 = M1
  intro h0 hMd hMu hMr hMm
  have hW1 : g_wf (M1 (m + 2)) := by rw [hMd]; exact hW
  have h20 := hW1.nb
  have h8 := hW1.ns
  have h160 := hW1.no
  have hH1 : q_hr M1 m u H := hH.th hM1
  have hd1 : H 0 = M1 (m + 2) := by rw [hMd]; exact hd
  refine qw_iconst (nI 0) dX9_air_5 (by decide) ?_
  refine qw_istore_n 1 dX9_air_6 rfl rfl (by decide) ?_
  refine l_X9_air h9 hW1 ?_ (M1 (m + 2) 0 + 1) 0 (Nat.zero_le _) (by omega) (fun j hj => absurd hj (Nat.not_lt_zero j))
  have hle : g_eo (M1 (m + 2)) ≤ M1 (m + 2) 0 := q_fst_le _ _ _
  refine qw_aload_n 0 dX9_air_37 rfl rfl ?_
  refine qw_iload_n 1 dX9_air_38 rfl rfl ?_
  refine qw_aload_n 0 dX9_air_39 rfl rfl ?_
  refine qw_getr fX9_17 dX9_air_40 h9.1 rfl ?_
  refine qw_iconst (nI 0) dX9_air_43 (by decide) ?_
  refine qw_iald dX9_air_44 h9.da (by omega) (by omega) ?_
  refine qw_icmp_neN 52 dX9_air_45 (by decide) (by omega) (by omega) (fun c45 => ?_) (fun c45 => ?_)
  · refine qw_iconst (nI 0) dX9_air_52 (by decide) ?_
    refine qw_iconst (nI 1) dX9_air_53 (by decide) ?_
    refine qw_cvi [_, _] (k_X9_fails h9 (by decide) (by decide) h0) mX9_166 dX9_air_54 h9.1 rfl rfl rfl (Nat.le_of_ble_eq_true rfl) (by omega) (by decide) rfl (fun x1 M2 h1 => ?_)
    obtain ⟨-, rfl, hz⟩ := h1.resolve_right (fun q => absurd q.1 (by decide))
    rw [hz]
    refine qw_if_eqN 62 dX9_air_57 (by decide) (by omega) (fun c57 => ?_) (fun c57 => absurd rfl c57)
    refine qw_aload_n 0 dX9_air_62 rfl rfl ?_
    refine qw_cvv [] (k_X9_remember h9 hH1 h0 hd1) mX9_178 dX9_air_63 h9.1 rfl rfl rfl (Nat.le_of_ble_eq_true rfl) (by omega) (by decide) rfl (fun M2 hmu => ?_)
    have e2 := hmu.1
    refine qw_aload_n 0 dX9_air_66 rfl rfl ?_
    refine qw_getr fX9_17 dX9_air_67 h9.1 rfl ?_
    refine qw_iload_n 1 dX9_air_70 rfl rfl ?_
    refine qw_csp [_] (k_X9_at) mX9_44 dX9_air_71 rfl rfl (Nat.le_of_ble_eq_true rfl) (by omega) (by decide) rfl ?_
    refine qw_iconst (nI 4) dX9_air_74 (by decide) ?_
    refine qw_addN dX9_air_75 ?_
    refine qw_iconst (nI 1) dX9_air_76 (by decide) ?_
    refine qw_iasj (11 + 30 * g_eo (M1 (m + 2))) (by omega) dX9_air_77 h9.da (by omega) (by omega) ?_
    refine qw_aload_n 0 dX9_air_78 rfl rfl ?_
    refine qw_iload_n 1 dX9_air_79 rfl rfl ?_
    refine qw_cvp [_] (k_X9_countOf h9 (by omega)) mX9_185 dX9_air_80 h9.1 rfl rfl rfl (Nat.le_of_ble_eq_true rfl) (by omega) (by decide) rfl ?_
    exact qw_ireturn rfl rfl dX9_air_83 ⟨rfl, rfl, rfl, _, rfl, by rw [← hMd]; exact Or.inl ⟨by omega, by rw [lq_up_c _ _ (by omega), e2], (hmu.go (q_dfr.of (fun b hb => lq_up_n _ _ _ hb)) (by rw [lq_up_a, e2]; rfl)).th hM1⟩⟩
  · refine qw_iconst (nI 1) dX9_air_48 (by decide) ?_
    refine qw_goto 53 dX9_air_49 (by decide) ?_
    refine qw_iconst (nI 1) dX9_air_53 (by decide) ?_
    refine qw_cvi [_, _] (k_X9_fails h9 (by decide) (by decide) h0) mX9_166 dX9_air_54 h9.1 rfl rfl rfl (Nat.le_of_ble_eq_true rfl) (by omega) (by decide) rfl (fun x1 M2 h1 => ?_)
    obtain ⟨-, rfl, hz⟩ := h1.resolve_left (fun q => absurd q.1 (by decide))
    rw [hz]
    refine qw_if_eqN 62 dX9_air_57 (by decide) (by omega) (fun c57 => absurd c57 (by decide)) (fun c57 => ?_)
    refine qw_iconst (nI 0) dX9_air_60 (by decide) ?_
    exact qw_ireturn rfl rfl dX9_air_61 ⟨rfl, rfl, rfl, _, rfl, by rw [← hMd]; exact Or.inr ⟨by omega, hMu 1⟩⟩
def g_cni (g : Nat → Nat) (i t j : Nat) : Nat → Nat := fun x => if x = 5 then g 5 + t else if 723 + 4 * g 5 ≤ x ∧ x < 723 + 4 * (g 5 + t) + j then (if (x - 723) % 4 = 3 then g (10 + 30 * i) else g (13 + 30 * i + 3 * ((x - 723) / 4 - g 5) + (x - 723) % 4)) else g x
theorem g_cni_w {g : Nat → Nat} {i t j : Nat} (hi : i < 20) (ht : t < 8) (hj : j < 3) : (fun x => if x = 723 + 4 * (g 5 + t) + j then g_cni g i t j (13 + 30 * i + 3 * t + j) else g_cni g i t j x) = g_cni g i t (j + 1) := by
  funext x
  unfold g_cni
  by_cases e : x = 723 + 4 * (g 5 + t) + j
  · rw [if_pos e, if_neg (by omega), if_neg (by omega), if_neg (by omega), if_pos (by omega), if_neg (by omega), show 13 + 30 * i + 3 * t + j = 13 + 30 * i + 3 * ((x - 723) / 4 - g 5) + (x - 723) % 4 by omega]
  · rw [if_neg e]
    by_cases e5 : x = 5
    · rw [if_pos e5, if_pos e5]
    · rw [if_neg e5, if_neg e5]
      by_cases e2 : 723 + 4 * g 5 ≤ x ∧ x < 723 + 4 * (g 5 + t) + j
      · rw [if_pos e2, if_pos (show 723 + 4 * g 5 ≤ x ∧ x < 723 + 4 * (g 5 + t) + (j + 1) by omega)]
      · rw [if_neg e2, if_neg (by omega)]
theorem g_cni_s {g : Nat → Nat} {i t : Nat} (hi : i < 20) : (fun x => if x = 5 then g 5 + t + 1 else if x = 723 + 4 * (g 5 + t) + 3 then g (10 + 30 * i) else g_cni g i t 3 x) = g_cni g i (t + 1) 0 := by
  funext x
  unfold g_cni
  by_cases e5 : x = 5
  · rw [if_pos e5, if_pos e5]; omega
  · rw [if_neg e5, if_neg e5]
    by_cases e : x = 723 + 4 * (g 5 + t) + 3
    · rw [if_pos e, if_neg e5, if_pos (show 723 + 4 * g 5 ≤ x ∧ x < 723 + 4 * (g 5 + (t + 1)) + 0 by omega), if_pos (show (x - 723) % 4 = 3 by omega)]
    · rw [if_neg e, if_neg e5]
      by_cases e2 : 723 + 4 * g 5 ≤ x ∧ x < 723 + 4 * (g 5 + t) + 3
      · rw [if_pos e2, if_pos (show 723 + 4 * g 5 ≤ x ∧ x < 723 + 4 * (g 5 + (t + 1)) + 0 by omega)]
      · rw [if_neg e2, if_neg (by omega)]
theorem g_cni_0 {g : Nat → Nat} {i : Nat} : g = g_cni g i 0 0 := by
  funext x
  unfold g_cni
  by_cases e5 : x = 5
  · rw [if_pos e5, e5]; omega
  · rw [if_neg e5, if_neg (by omega)]
theorem g_cni_f {g : Nat → Nat} {i : Nat} (hi : i < 20) : (fun x => if x = 12 + 30 * i then 0 else if x = 11 + 30 * i then 2 else g_cni g i (g (12 + 30 * i)) 0 x) = g_can2 g i := by
  funext x
  unfold g_cni g_can2
  by_cases e1 : x = 12 + 30 * i
  · rw [if_pos e1, if_neg (by omega), if_pos e1]
  · rw [if_neg e1]
    by_cases e2 : x = 11 + 30 * i
    · rw [if_pos e2, if_pos e2]
    · rw [if_neg e2, if_neg e2, if_neg e1]
      by_cases e5 : x = 5
      · rw [if_pos e5, if_pos e5]
      · rw [if_neg e5, if_neg e5, Nat.add_zero]
theorem l0_X9_cancel (h9 : sh9 S m fh fo) {g : Nat → Nat} {i : Nat} (hi : i < 20) (h160 : g 5 ≤ 160) (hc8 : g (12 + 30 * i) ≤ 8) {M0 : lq_M} {Q : lq_P} {t : Nat} (ht : t < g (12 + 30 * i)) (kk : ∀ M1 : lq_M, M1 (m + 2) = g_cni g i (t + 1) 0 → (∀ b, b ≠ m + 2 → M1 b = M0 b) → LW G YX9_cancel 2 0 0 Q lq_no z S M1 N 48 [some (.ref m), some (.int (nI i)), some (.int (nI (t + 1))), none, none] []) : ∀ (n9 j : Nat) (M : lq_M), j ≤ 3 → 3 - j < n9 → M (m + 2) = g_cni g i t j → (∀ b, b ≠ m + 2 → M b = M0 b) → LW G YX9_cancel 2 0 0 Q lq_no z S M N 73 [some (.ref m), some (.int (nI i)), some (.int (nI t)), some (.int (nI (723 + 4 * (g 5 + t)))), some (.int (nI j))] [] := by
  intro n9
  induction n9 with
  | zero => intro _ _ _ _ _ _; omega
  | succ n9 ih =>
    intro j M hj hn9 hv hq
    refine qw_iload dX9_cancel_73 rfl ?_
    refine qw_iconst (nI 3) dX9_cancel_75 (by decide) ?_
    refine qw_icmp_geN 107 dX9_cancel_76 (by decide) (by omega) (by omega) (fun c76 => ?_) (fun c76 => ?_)
    · refine qw_aload_n 0 dX9_cancel_107 rfl rfl ?_
      refine qw_getr fX9_17 dX9_cancel_108 h9.1 rfl ?_
      refine qw_iload_n 3 dX9_cancel_111 rfl rfl ?_
      refine qw_iconst (nI 3) dX9_cancel_112 (by decide) ?_
      refine qw_addN dX9_cancel_113 ?_
      refine qw_aload_n 0 dX9_cancel_114 rfl rfl ?_
      refine qw_getr fX9_17 dX9_cancel_115 h9.1 rfl ?_
      refine qw_iload_n 1 dX9_cancel_118 rfl rfl ?_
      refine qw_csp [_] (k_X9_at) mX9_44 dX9_cancel_119 rfl rfl (Nat.le_of_ble_eq_true rfl) (by omega) (by decide) rfl ?_
      refine qw_iconst (nI 3) dX9_cancel_122 (by decide) ?_
      refine qw_addN dX9_cancel_123 ?_
      refine qw_iaj (10 + 30 * i) (by omega) dX9_cancel_124 h9.da (by omega) (by omega) ?_
      refine qw_iast dX9_cancel_125 h9.da (by omega) (by omega) ?_
      refine qw_aload_n 0 dX9_cancel_126 rfl rfl ?_
      refine qw_getr fX9_17 dX9_cancel_127 h9.1 rfl ?_
      refine qw_iconst (nI 5) dX9_cancel_130 (by decide) ?_
      refine qw_dup2 dX9_cancel_131 rfl rfl ?_
      refine qw_iald dX9_cancel_132 h9.da (by omega) (by omega) ?_
      refine qw_iconst (nI 1) dX9_cancel_133 (by decide) ?_
      refine qw_addN dX9_cancel_134 ?_
      refine qw_iast dX9_cancel_135 h9.da (by omega) (by omega) ?_
      refine qw_iincN 1 dX9_cancel_136 rfl (by decide) rfl (by decide) ?_
      refine qw_goto 48 dX9_cancel_139 (by decide) ?_
      refine qw_weak _ (by simp [lq_le]) (kk _ ?_ (fun b hb => by rw [lq_up_n _ _ _ hb, lq_up_n _ _ _ hb]; exact hq b hb))
      rw [lq_up_a, lq_up_c _ _ (by omega), lq_up_a, hv, ← g_cni_s hi, show j = 3 by omega]
      funext x
      by_cases e5 : x = 5
      · rw [if_pos e5, if_pos e5]
        show g_cni g i t 3 5 + 1 = _
        unfold g_cni
        rw [if_pos rfl]
      · rw [if_neg e5, if_neg e5]
        show (if x = 723 + 4 * (g 5 + t) + 3 then g_cni g i t 3 (10 + 30 * i) else g_cni g i t 3 x) = _
        by_cases e : x = 723 + 4 * (g 5 + t) + 3
        · rw [if_pos e, if_pos e]
          unfold g_cni
          rw [if_neg (by omega), if_neg (by omega)]
        · rw [if_neg e, if_neg e]
    · refine qw_aload_n 0 dX9_cancel_79 rfl rfl ?_
      refine qw_getr fX9_17 dX9_cancel_80 h9.1 rfl ?_
      refine qw_iload_n 3 dX9_cancel_83 rfl rfl ?_
      refine qw_iload dX9_cancel_84 rfl ?_
      refine qw_addN dX9_cancel_86 ?_
      refine qw_aload_n 0 dX9_cancel_87 rfl rfl ?_
      refine qw_getr fX9_17 dX9_cancel_88 h9.1 rfl ?_
      refine qw_iload_n 1 dX9_cancel_91 rfl rfl ?_
      refine qw_iload_n 2 dX9_cancel_92 rfl rfl ?_
      refine qw_csp [_, _] (k_X9_spotAt) mX9_188 dX9_cancel_93 rfl rfl (Nat.le_of_ble_eq_true rfl) (by omega) (by decide) rfl ?_
      refine qw_iload dX9_cancel_96 rfl ?_
      refine qw_addN dX9_cancel_98 ?_
      refine qw_iald dX9_cancel_99 h9.da (by omega) (by omega) ?_
      refine qw_iast dX9_cancel_100 h9.da (by omega) (by omega) ?_
      refine qw_iincN 1 dX9_cancel_101 rfl (by decide) rfl (by decide) ?_
      refine qw_goto 73 dX9_cancel_104 (by decide) ?_
      refine ih (j + 1) _ (by omega) (by omega) ?_ (fun b hb => by rw [lq_up_n _ _ _ hb]; exact hq b hb)
      rw [lq_up_a, hv]
      exact g_cni_w hi (by omega) (by omega)
theorem l1_X9_cancel (h9 : sh9 S m fh fo) {g : Nat → Nat} {i : Nat} (hi : i < 20) (h160 : g 5 ≤ 160) (hc8 : g (12 + 30 * i) ≤ 8) {M0 : lq_M} {Q : lq_P} (kk : ∀ M1 : lq_M, M1 (m + 2) = g_cni g i (g (12 + 30 * i)) 0 → (∀ b, b ≠ m + 2 → M1 b = M0 b) → LW G YX9_cancel 2 0 0 Q lq_no z S M1 N 142 [some (.ref m), some (.int (nI i)), none, none, none] []) : ∀ (n9 t : Nat) (M : lq_M), t ≤ g (12 + 30 * i) → g (12 + 30 * i) - t < n9 → M (m + 2) = g_cni g i t 0 → (∀ b, b ≠ m + 2 → M b = M0 b) → LW G YX9_cancel 2 0 0 Q lq_no z S M N 48 [some (.ref m), some (.int (nI i)), some (.int (nI t)), none, none] [] := by
  intro n9
  induction n9 with
  | zero => intro _ _ _ _ _ _; omega
  | succ n9 ih =>
    intro t M ht hn9 hv hq
    have hv5 : M (m + 2) 5 = g 5 + t := by rw [hv]; unfold g_cni; rw [if_pos rfl]
    have hvc : M (m + 2) (12 + 30 * i) = g (12 + 30 * i) := by rw [hv]; unfold g_cni; rw [if_neg (by omega), if_neg (by omega)]
    refine qw_iload_n 2 dX9_cancel_48 rfl rfl ?_
    refine qw_aload_n 0 dX9_cancel_49 rfl rfl ?_
    refine qw_iload_n 1 dX9_cancel_50 rfl rfl ?_
    refine qw_cvp [_] (k_X9_countOf h9 hi) mX9_185 dX9_cancel_51 h9.1 rfl rfl rfl (Nat.le_of_ble_eq_true rfl) (by omega) (by decide) rfl ?_
    rw [hvc]
    refine qw_icmp_geN 142 dX9_cancel_54 (by decide) (by omega) (by omega) (fun c54 => ?_) (fun c54 => ?_)
    · have e : t = g (12 + 30 * i) := by omega
      subst e
      exact qw_weak _ (by simp [lq_le]) (kk M hv hq)
    · refine qw_sipush (nI 723) dX9_cancel_57 (by decide) ?_
      refine qw_iconst (nI 4) dX9_cancel_60 (by decide) ?_
      refine qw_aload_n 0 dX9_cancel_61 rfl rfl ?_
      refine qw_getr fX9_17 dX9_cancel_62 h9.1 rfl ?_
      refine qw_iconst (nI 5) dX9_cancel_65 (by decide) ?_
      refine qw_iald dX9_cancel_66 h9.da (by omega) (by omega) ?_
      rw [hv5]
      refine qw_mulN dX9_cancel_67 ?_
      refine qw_addN dX9_cancel_68 ?_
      refine qw_istore_n 3 dX9_cancel_69 rfl rfl (by decide) ?_
      refine qw_iconst (nI 0) dX9_cancel_70 (by decide) ?_
      refine qw_istore dX9_cancel_71 rfl (by decide) ?_
      exact l0_X9_cancel h9 hi h160 hc8 (t := t) (by omega) (fun M1 k1 k2 => ih (t + 1) M1 (by omega) (by omega) k1 k2) 4 0 M (by decide) (by decide) hv hq
theorem k_X9_cancel (h9 : sh9 S m fh fo) (hW : g_wf (M (m + 2))) {u : Nat} {H : Nat → Nat → Nat} (hH : q_hr M m u H) (hd : H 0 = M (m + 2)) {i : Int32} : LM G YX9_cancel 2 0 0 [.ref m, .int i] z S M N (lq_mn z S (fun x M3 N2 => ((∃ k, k < M (m + 2) 0 ∧ i = nI k ∧ M (m + 2) (11 + 30 * k) = 0 ∧ x = nI (g_can2 (M (m + 2)) k 5) ∧ q_mut m u H M M3 (g_can2 (M (m + 2)) k)) ∨ ∃ e, ((e = 1 ∧ ¬ q_ix i (M (m + 2) 0)) ∨ (e = 2 ∧ ∃ k, k < M (m + 2) 0 ∧ i = nI k ∧ M (m + 2) (11 + 30 * k) ≠ 0)) ∧ M3 = lq_up M m 0 e) ∧ q_nf m N N2)) lq_no := by
  refine LM.of (by decide) rfl [some (.ref m), some (.int i), none, none, none] rfl (Nat.le_of_ble_eq_true rfl) ?_
  refine qw_aload_n 0 dX9_cancel_0 rfl rfl ?_
  refine qw_iconst (nI 0) dX9_cancel_1 (by decide) ?_
  refine qw_puti fX9_41 dX9_cancel_2 h9.1 rfl ?_
  have hM0 := lq_up_s M m 0 0
  have hMd := lq_up_n M (a := m) (b := m + 2) 0 0 (by omega)
  have hMu := fun e => lq_up_up M m 0 0 e
  have hMr := fun b (hb : b ≠ m) => lq_up_n M (a := m) (b := b) 0 0 hb
  have hMm := fun j (hj : j ≠ 0) => lq_up_c M (a := m) (k := 0) (j := j) 0 hj
  revert hM0 hMd hMu hMr hMm
  generalize hM1 : lq_up M m 0 0 = M1
  intro h0 hMd hMu hMr hMm
  have hW1 : g_wf (M1 (m + 2)) := by rw [hMd]; exact hW
  have h20 := hW1.nb
  have h8 := hW1.ns
  have h160 := hW1.no
  have hH1 : q_hr M1 m u H := hH.th hM1
  have hd1 : H 0 = M1 (m + 2) := by rw [hMd]; exact hd
  refine qw_aload_n 0 dX9_cancel_5 rfl rfl ?_
  refine qw_iload_n 1 dX9_cancel_6 rfl rfl ?_
  refine qw_cvi [_] (k_X9_noBreak h9 h0 (by omega)) mX9_235 dX9_cancel_7 h9.1 rfl rfl rfl (Nat.le_of_ble_eq_true rfl) (by omega) (by decide) rfl (fun x1 M2 h1 => ?_)
  rcases h1 with ⟨v1, rfl, hz⟩ | ⟨v1, rfl, hz⟩ <;> rw [hz]
  · refine qw_if_neN 40 dX9_cancel_10 (by decide) (by omega) (fun c10 => absurd rfl c10) (fun c10 => ?_)
    obtain ⟨k, hk, rfl⟩ := v1
    have hb := hW1.br hk
    refine qw_aload_n 0 dX9_cancel_13 rfl rfl ?_
    refine qw_aload_n 0 dX9_cancel_14 rfl rfl ?_
    refine qw_getr fX9_17 dX9_cancel_15 h9.1 rfl ?_
    refine qw_iload_n 1 dX9_cancel_18 rfl rfl ?_
    refine qw_csp [_] (k_X9_at) mX9_44 dX9_cancel_19 rfl rfl (Nat.le_of_ble_eq_true rfl) (by omega) (by decide) rfl ?_
    refine qw_iconst (nI 4) dX9_cancel_22 (by decide) ?_
    refine qw_addN dX9_cancel_23 ?_
    refine qw_iaj (11 + 30 * k) (by omega) dX9_cancel_24 h9.da (by omega) (by omega) ?_
    refine qw_if_eqN 32 dX9_cancel_25 (by decide) (by omega) (fun c25 => ?_) (fun c25 => ?_)
    · refine qw_iconst (nI 0) dX9_cancel_32 (by decide) ?_
      refine qw_iconst (nI 2) dX9_cancel_33 (by decide) ?_
      refine qw_cvi [_, _] (k_X9_fails h9 (by decide) (by decide) h0) mX9_166 dX9_cancel_34 h9.1 rfl rfl rfl (Nat.le_of_ble_eq_true rfl) (by omega) (by decide) rfl (fun x1 M2 h1 => ?_)
      obtain ⟨-, rfl, hz⟩ := h1.resolve_right (fun q => absurd q.1 (by decide))
      rw [hz]
      refine qw_if_eqN 42 dX9_cancel_37 (by decide) (by omega) (fun c37 => ?_) (fun c37 => absurd rfl c37)
      refine qw_aload_n 0 dX9_cancel_42 rfl rfl ?_
      refine qw_cvv [] (k_X9_remember h9 hH1 h0 hd1) mX9_178 dX9_cancel_43 h9.1 rfl rfl rfl (Nat.le_of_ble_eq_true rfl) (by omega) (by decide) rfl (fun M2 hmu => ?_)
      have e2 := hmu.1
      refine qw_iconst (nI 0) dX9_cancel_46 (by decide) ?_
      refine qw_istore_n 2 dX9_cancel_47 rfl rfl (by decide) ?_
      refine l1_X9_cancel h9 (g := M1 (m + 2)) (i := k) (M0 := M2) (by omega) h160 hb.2.2.2.2.2.1 (fun M3 k1 k2 => ?_) (M1 (m + 2) (12 + 30 * k) + 1) 0 M2 (Nat.zero_le _) (by omega) (by rw [e2]; exact g_cni_0) (fun b hb => rfl)
      refine qw_aload_n 0 dX9_cancel_142 rfl rfl ?_
      refine qw_getr fX9_17 dX9_cancel_143 h9.1 rfl ?_
      refine qw_iload_n 1 dX9_cancel_146 rfl rfl ?_
      refine qw_csp [_] (k_X9_at) mX9_44 dX9_cancel_147 rfl rfl (Nat.le_of_ble_eq_true rfl) (by omega) (by decide) rfl ?_
      refine qw_iconst (nI 4) dX9_cancel_150 (by decide) ?_
      refine qw_addN dX9_cancel_151 ?_
      refine qw_iconst (nI 2) dX9_cancel_152 (by decide) ?_
      refine qw_iasj (11 + 30 * k) (by omega) dX9_cancel_153 h9.da (by omega) (by omega) ?_
      refine qw_aload_n 0 dX9_cancel_154 rfl rfl ?_
      refine qw_getr fX9_17 dX9_cancel_155 h9.1 rfl ?_
      refine qw_iload_n 1 dX9_cancel_158 rfl rfl ?_
      refine qw_csp [_] (k_X9_at) mX9_44 dX9_cancel_159 rfl rfl (Nat.le_of_ble_eq_true rfl) (by omega) (by decide) rfl ?_
      refine qw_iconst (nI 5) dX9_cancel_162 (by decide) ?_
      refine qw_addN dX9_cancel_163 ?_
      refine qw_iconst (nI 0) dX9_cancel_164 (by decide) ?_
      refine qw_iasj (12 + 30 * k) (by omega) dX9_cancel_165 h9.da (by omega) (by omega) ?_
      have hfin : lq_up (lq_up M3 (m + 2) (11 + 30 * k) 2) (m + 2) (12 + 30 * k) 0 (m + 2) = g_can2 (M1 (m + 2)) k := by rw [lq_up_a, lq_up_a, k1]; exact g_cni_f (by omega)
      refine qw_aload_n 0 dX9_cancel_166 rfl rfl ?_
      refine qw_getr fX9_17 dX9_cancel_167 h9.1 rfl ?_
      refine qw_iconst (nI 5) dX9_cancel_170 (by decide) ?_
      refine qw_iald dX9_cancel_171 h9.da (by omega) (by omega) ?_
      exact qw_ireturn rfl rfl dX9_cancel_172 ⟨rfl, rfl, _, rfl, Or.inl (by rw [← hMd]; exact ⟨k, hk, rfl, c25, by rw [hfin], (hmu.go (q_dfr.of (fun b hb => by rw [lq_up_n _ _ _ hb, lq_up_n _ _ _ hb]; exact k2 b hb)) hfin).th hM1⟩), q_nf.rf⟩
    · refine qw_iconst (nI 1) dX9_cancel_28 (by decide) ?_
      refine qw_goto 33 dX9_cancel_29 (by decide) ?_
      refine qw_iconst (nI 2) dX9_cancel_33 (by decide) ?_
      refine qw_cvi [_, _] (k_X9_fails h9 (by decide) (by decide) h0) mX9_166 dX9_cancel_34 h9.1 rfl rfl rfl (Nat.le_of_ble_eq_true rfl) (by omega) (by decide) rfl (fun x1 M2 h1 => ?_)
      obtain ⟨-, rfl, hz⟩ := h1.resolve_left (fun q => absurd q.1 (by decide))
      rw [hz]
      refine qw_if_eqN 42 dX9_cancel_37 (by decide) (by omega) (fun c37 => absurd c37 (by decide)) (fun c37 => ?_)
      refine qw_iconst (nI 0) dX9_cancel_40 (by decide) ?_
      exact qw_ireturn rfl rfl dX9_cancel_41 ⟨rfl, rfl, _, rfl, Or.inr ⟨2, by rw [← hMd]; exact Or.inr ⟨rfl, k, hk, rfl, c25⟩, hMu 2⟩, q_nf.rf⟩
  · refine qw_if_neN 40 dX9_cancel_10 (by decide) (by omega) (fun c10 => ?_) (fun c10 => absurd c10 (by decide))
    refine qw_iconst (nI 0) dX9_cancel_40 (by decide) ?_
    exact qw_ireturn rfl rfl dX9_cancel_41 ⟨rfl, rfl, _, rfl, Or.inr ⟨1, by rw [← hMd]; exact Or.inl ⟨rfl, v1⟩, hMu 1⟩, q_nf.rf⟩
def g_dli (g : Nat → Nat) (i p k : Nat) : Nat → Nat := fun x => if x = 12 + 30 * i then g (12 + 30 * i) - 1 else if 13 + 30 * i + 3 * p ≤ x ∧ x < k then g (x + 3) else g x
theorem g_dli_w {g : Nat → Nat} {i p k : Nat} (hk : 13 + 30 * i + 3 * p ≤ k) : (fun x => if x = k then g_dli g i p k (k + 3) else g_dli g i p k x) = g_dli g i p (k + 1) := by
  funext x
  unfold g_dli
  by_cases e : x = k
  · rw [if_pos e, if_neg (by omega), if_neg (by omega), if_neg (by omega), if_pos (by omega), e]
  · rw [if_neg e]
    by_cases e1 : x = 12 + 30 * i
    · rw [if_pos e1, if_pos e1]
    · rw [if_neg e1, if_neg e1]
      by_cases e2 : 13 + 30 * i + 3 * p ≤ x ∧ x < k
      · rw [if_pos e2, if_pos (by omega)]
      · rw [if_neg e2, if_neg (by omega)]
theorem g_dli_0 {g : Nat → Nat} {i p : Nat} : (fun x => if x = 12 + 30 * i then g (12 + 30 * i) - 1 else g x) = g_dli g i p (13 + 30 * i + 3 * p) := by
  funext x
  unfold g_dli
  by_cases e1 : x = 12 + 30 * i
  · rw [if_pos e1, if_pos e1]
  · rw [if_neg e1, if_neg e1, if_neg (by omega)]
theorem g_dli_f {g : Nat → Nat} {i p : Nat} : g_dli g i p (10 + 30 * i + 3 * g (12 + 30 * i)) = g_del g i p := by
  funext x
  unfold g_dli g_del
  by_cases e1 : x = 12 + 30 * i
  · rw [if_pos e1, if_pos e1, e1]
  · rw [if_neg e1, if_neg e1]
theorem l_X9_remove (h9 : sh9 S m fh fo) {g : Nat → Nat} {i p : Nat} (hi : i < 20) (hc8 : g (12 + 30 * i) ≤ 8) (hp : p < g (12 + 30 * i)) {M0 : lq_M} {Q : lq_P} {rf : Nat} (kk : ∀ M1 : lq_M, M1 (m + 2) = g_del g i p → (∀ b, b ≠ m + 2 → M1 b = M0 b) → LW G YX9_remove 2 0 0 Q lq_no z S M1 N 206 [some (.ref m), none, none, none, some (.int (nI rf)), none] []) : ∀ (n9 k : Nat) (M : lq_M), 13 + 30 * i + 3 * p ≤ k → k ≤ 10 + 30 * i + 3 * g (12 + 30 * i) → 10 + 30 * i + 3 * g (12 + 30 * i) - k < n9 → M (m + 2) = g_dli g i p k → (∀ b, b ≠ m + 2 → M b = M0 b) → LW G YX9_remove 2 0 0 Q lq_no z S M N 170 [some (.ref m), some (.int (nI i)), some (.int (nI p)), none, some (.int (nI rf)), some (.int (nI k))] [] := by
  intro n9
  induction n9 with
  | zero => intro _ _ _ _ _ _ _; omega
  | succ n9 ih =>
    intro k M hk1 hk hn9 hv hq
    have hvc : M (m + 2) (12 + 30 * i) = g (12 + 30 * i) - 1 := by rw [hv]; unfold g_dli; rw [if_pos rfl]
    refine qw_iload dX9_remove_170 rfl ?_
    refine qw_iload_n 1 dX9_remove_172 rfl rfl ?_
    refine qw_aload_n 0 dX9_remove_173 rfl rfl ?_
    refine qw_iload_n 1 dX9_remove_174 rfl rfl ?_
    refine qw_cvp [_] (k_X9_countOf h9 hi) mX9_185 dX9_remove_175 h9.1 rfl rfl rfl (Nat.le_of_ble_eq_true rfl) (by omega) (by decide) rfl ?_
    rw [hvc]
    refine qw_csp [_, _] (k_X9_spotAt) mX9_188 dX9_remove_178 rfl rfl (Nat.le_of_ble_eq_true rfl) (by omega) (by decide) rfl ?_
    refine qw_icmp_geN 206 dX9_remove_181 (by decide) (by omega) (by omega) (fun c181 => ?_) (fun c181 => ?_)
    · refine qw_weak _ (by simp [lq_le]) (kk M ?_ hq)
      rw [hv, show k = 10 + 30 * i + 3 * g (12 + 30 * i) by omega]
      exact g_dli_f
    · refine qw_aload_n 0 dX9_remove_184 rfl rfl ?_
      refine qw_getr fX9_17 dX9_remove_185 h9.1 rfl ?_
      refine qw_iload dX9_remove_188 rfl ?_
      refine qw_aload_n 0 dX9_remove_190 rfl rfl ?_
      refine qw_getr fX9_17 dX9_remove_191 h9.1 rfl ?_
      refine qw_iload dX9_remove_194 rfl ?_
      refine qw_iconst (nI 3) dX9_remove_196 (by decide) ?_
      refine qw_addN dX9_remove_197 ?_
      refine qw_iald dX9_remove_198 h9.da (by omega) (by omega) ?_
      refine qw_iast dX9_remove_199 h9.da (by omega) (by omega) ?_
      refine qw_iincN 1 dX9_remove_200 rfl (by decide) rfl (by decide) ?_
      refine qw_goto 170 dX9_remove_203 (by decide) ?_
      refine ih (k + 1) _ (by omega) (by omega) (by omega) ?_ (fun b hb => by rw [lq_up_n _ _ _ hb]; exact hq b hb)
      rw [lq_up_a, hv]
      exact g_dli_w hk1
theorem k_X9_remove (h9 : sh9 S m fh fo) (hW : g_wf (M (m + 2))) {u : Nat} {H : Nat → Nat → Nat} (hH : q_hr M m u H) (hd : H 0 = M (m + 2)) {i p : Int32} : LM G YX9_remove 2 0 0 [.ref m, .int i, .int p] z S M N (lq_mn z S (fun x M3 N2 => ((∃ k q, k < M (m + 2) 0 ∧ q < M (m + 2) (12 + 30 * k) ∧ i = nI k ∧ p = nI q ∧ g_can (M (m + 2)) k q ≠ 0 ∧ x = nI (M (m + 2) (15 + 30 * k + 3 * q) / 2) ∧ q_mut m u H M M3 (g_rem (M (m + 2)) k q)) ∨ ∃ e, ((e = 1 ∧ ¬ q_ix i (M (m + 2) 0)) ∨ (e = 2 ∧ ∃ k, k < M (m + 2) 0 ∧ i = nI k ∧ ¬ q_ix p (M (m + 2) (12 + 30 * k))) ∨ (e = 3 ∧ ∃ k q, k < M (m + 2) 0 ∧ q < M (m + 2) (12 + 30 * k) ∧ i = nI k ∧ p = nI q ∧ g_can (M (m + 2)) k q = 0)) ∧ M3 = lq_up M m 0 e) ∧ q_nf m N N2)) lq_no := by
  refine LM.of (by decide) rfl [some (.ref m), some (.int i), some (.int p), none, none, none] rfl (Nat.le_of_ble_eq_true rfl) ?_
  refine qw_aload_n 0 dX9_remove_0 rfl rfl ?_
  refine qw_iconst (nI 0) dX9_remove_1 (by decide) ?_
  refine qw_puti fX9_41 dX9_remove_2 h9.1 rfl ?_
  have hM0 := lq_up_s M m 0 0
  have hMd := lq_up_n M (a := m) (b := m + 2) 0 0 (by omega)
  have hMu := fun e => lq_up_up M m 0 0 e
  have hMr := fun b (hb : b ≠ m) => lq_up_n M (a := m) (b := b) 0 0 hb
  have hMm := fun j (hj : j ≠ 0) => lq_up_c M (a := m) (k := 0) (j := j) 0 hj
  revert hM0 hMd hMu hMr hMm
  generalize hM1 : lq_up M m 0 0 = M1
  intro h0 hMd hMu hMr hMm
  have hW1 : g_wf (M1 (m + 2)) := by rw [hMd]; exact hW
  have h20 := hW1.nb
  have h8 := hW1.ns
  have h160 := hW1.no
  have hH1 : q_hr M1 m u H := hH.th hM1
  have hd1 : H 0 = M1 (m + 2) := by rw [hMd]; exact hd
  refine qw_aload_n 0 dX9_remove_5 rfl rfl ?_
  refine qw_iload_n 1 dX9_remove_6 rfl rfl ?_
  refine qw_cvi [_] (k_X9_noBreak h9 h0 (by omega)) mX9_235 dX9_remove_7 h9.1 rfl rfl rfl (Nat.le_of_ble_eq_true rfl) (by omega) (by decide) rfl (fun x1 M2 h1 => ?_)
  rcases h1 with ⟨v1, rfl, hz⟩ | ⟨v1, rfl, hz⟩ <;> rw [hz]
  · refine qw_if_neN 41 dX9_remove_10 (by decide) (by omega) (fun c10 => absurd rfl c10) (fun c10 => ?_)
    obtain ⟨k, hk, rfl⟩ := v1
    have hb := hW1.br hk
    refine qw_aload_n 0 dX9_remove_13 rfl rfl ?_
    refine qw_iload_n 2 dX9_remove_14 rfl rfl ?_
    refine qw_iconst (nI 0) dX9_remove_15 (by decide) ?_
    refine qw_aload_n 0 dX9_remove_16 rfl rfl ?_
    refine qw_iload_n 1 dX9_remove_17 rfl rfl ?_
    refine qw_cvp [_] (k_X9_countOf h9 (by omega)) mX9_185 dX9_remove_18 h9.1 rfl rfl rfl (Nat.le_of_ble_eq_true rfl) (by omega) (by decide) rfl ?_
    refine qw_iconst (nI 1) dX9_remove_21 (by decide) ?_
    refine qw_isub dX9_remove_22 ?_
    refine qw_csp [_, _, _] (k_X9_in) mX9_66 dX9_remove_23 rfl rfl (Nat.le_of_ble_eq_true rfl) (by omega) (by decide) rfl ?_
    rw [q_inix (by omega)]
    refine qw_if_neN 33 dX9_remove_26 (by decide) (Nat.lt_of_le_of_lt q_b_le (by decide)) (fun c26 => ?_) (fun c26 => ?_)
    · refine qw_iconst (nI 0) dX9_remove_33 (by decide) ?_
      refine qw_iconst (nI 2) dX9_remove_34 (by decide) ?_
      refine qw_cvi [_, _] (k_X9_fails h9 (by decide) (by decide) h0) mX9_166 dX9_remove_35 h9.1 rfl rfl rfl (Nat.le_of_ble_eq_true rfl) (by omega) (by decide) rfl (fun x1 M2 h1 => ?_)
      obtain ⟨-, rfl, hz⟩ := h1.resolve_right (fun q => absurd q.1 (by decide))
      rw [hz]
      refine qw_if_eqN 43 dX9_remove_38 (by decide) (by omega) (fun c38 => ?_) (fun c38 => absurd rfl c38)
      obtain ⟨q, hq, rfl⟩ := q_b_ne c26
      have hsq := (hW1.sp hk hq).2.2
      refine qw_iload_n 2 dX9_remove_43 rfl rfl ?_
      refine qw_if_leN 62 dX9_remove_44 (by decide) (by omega) (fun c44 => ?_) (fun c44 => ?_)
      · refine qw_iconst (nI 0) dX9_remove_62 (by decide) ?_
        refine qw_istore_n 3 dX9_remove_63 rfl rfl (by decide) ?_
        refine qw_aload_n 0 dX9_remove_64 rfl rfl ?_
        refine qw_aload_n 0 dX9_remove_65 rfl rfl ?_
        refine qw_getr fX9_17 dX9_remove_66 h9.1 rfl ?_
        refine qw_iload_n 1 dX9_remove_69 rfl rfl ?_
        refine qw_csp [_] (k_X9_at) mX9_44 dX9_remove_70 rfl rfl (Nat.le_of_ble_eq_true rfl) (by omega) (by decide) rfl ?_
        refine qw_iconst (nI 4) dX9_remove_73 (by decide) ?_
        refine qw_addN dX9_remove_74 ?_
        refine qw_iaj (11 + 30 * k) (by omega) dX9_remove_75 h9.da (by omega) (by omega) ?_
        refine qw_if_neN 114 dX9_remove_76 (by decide) (by omega) (fun c76 => ?_) (fun c76 => ?_)
        · refine qw_iconst (nI 1) dX9_remove_114 (by decide) ?_
          refine qw_goto 119 dX9_remove_115 (by decide) ?_
          refine qw_iconst (nI 3) dX9_remove_119 (by decide) ?_
          refine qw_cvi [_, _] (k_X9_fails h9 (by decide) (by decide) h0) mX9_166 dX9_remove_120 h9.1 rfl rfl rfl (Nat.le_of_ble_eq_true rfl) (by omega) (by decide) rfl (fun x1 M2 h1 => ?_)
          obtain ⟨-, rfl, hz⟩ := h1.resolve_left (fun q => absurd q.1 (by decide))
          rw [hz]
          refine qw_if_eqN 128 dX9_remove_123 (by decide) (by omega) (fun c123 => absurd c123 (by decide)) (fun c123 => ?_)
          refine qw_iconst (nI 0) dX9_remove_126 (by decide) ?_
          exact qw_ireturn rfl rfl dX9_remove_127 ⟨rfl, rfl, _, rfl, Or.inr ⟨3, by rw [← hMd]; exact Or.inr (Or.inr ⟨rfl, k, q, hk, hq, rfl, rfl, by rw [g_can, if_neg (fun q9 => c76 q9.1)]⟩), hMu 3⟩, q_nf.rf⟩
        · refine qw_iload_n 3 dX9_remove_79 rfl rfl ?_
          refine qw_if_eqN 118 dX9_remove_80 (by decide) (by omega) (fun c80 => ?_) (fun c80 => absurd rfl c80)
          refine qw_iconst (nI 0) dX9_remove_118 (by decide) ?_
          refine qw_iconst (nI 3) dX9_remove_119 (by decide) ?_
          refine qw_cvi [_, _] (k_X9_fails h9 (by decide) (by decide) h0) mX9_166 dX9_remove_120 h9.1 rfl rfl rfl (Nat.le_of_ble_eq_true rfl) (by omega) (by decide) rfl (fun x1 M2 h1 => ?_)
          obtain ⟨-, rfl, hz⟩ := h1.resolve_right (fun q => absurd q.1 (by decide))
          rw [hz]
          refine qw_if_eqN 128 dX9_remove_123 (by decide) (by omega) (fun c123 => ?_) (fun c123 => absurd rfl c123)
          refine qw_aload_n 0 dX9_remove_128 rfl rfl ?_
          refine qw_cvv [] (k_X9_remember h9 hH1 h0 hd1) mX9_178 dX9_remove_129 h9.1 rfl rfl rfl (Nat.le_of_ble_eq_true rfl) (by omega) (by decide) rfl (fun M2 hmu => ?_)
          have e2 := hmu.1
          refine qw_aload_n 0 dX9_remove_132 rfl rfl ?_
          refine qw_getr fX9_17 dX9_remove_133 h9.1 rfl ?_
          refine qw_iload_n 1 dX9_remove_136 rfl rfl ?_
          refine qw_iload_n 2 dX9_remove_137 rfl rfl ?_
          refine qw_csp [_, _] (k_X9_spotAt) mX9_188 dX9_remove_138 rfl rfl (Nat.le_of_ble_eq_true rfl) (by omega) (by decide) rfl ?_
          refine qw_iconst (nI 2) dX9_remove_141 (by decide) ?_
          refine qw_addN dX9_remove_142 ?_
          refine qw_iaj (15 + 30 * k + 3 * q) (by omega) dX9_remove_143 h9.da (by omega) (by omega) ?_
          rw [e2]
          refine qw_iconst (nI 2) dX9_remove_144 (by decide) ?_
          refine qw_divN (by omega) (by decide) (by decide) dX9_remove_145 ?_
          refine qw_istore dX9_remove_146 rfl (by decide) ?_
          refine qw_aload_n 0 dX9_remove_148 rfl rfl ?_
          refine qw_getr fX9_17 dX9_remove_149 h9.1 rfl ?_
          refine qw_iload_n 1 dX9_remove_152 rfl rfl ?_
          refine qw_csp [_] (k_X9_at) mX9_44 dX9_remove_153 rfl rfl (Nat.le_of_ble_eq_true rfl) (by omega) (by decide) rfl ?_
          refine qw_iconst (nI 5) dX9_remove_156 (by decide) ?_
          refine qw_addN dX9_remove_157 ?_
          refine qw_dup2 dX9_remove_158 rfl rfl ?_
          refine qw_iaj (12 + 30 * k) (by omega) dX9_remove_159 h9.da (by omega) (by omega) ?_
          rw [e2]
          refine qw_iconst (nI 1) dX9_remove_160 (by decide) ?_
          refine qw_subN (by omega) dX9_remove_161 ?_
          refine qw_iasj (12 + 30 * k) (by omega) dX9_remove_162 h9.da (by omega) (by omega) ?_
          refine qw_iload_n 1 dX9_remove_163 rfl rfl ?_
          refine qw_iload_n 2 dX9_remove_164 rfl rfl ?_
          refine qw_csp [_, _] (k_X9_spotAt) mX9_188 dX9_remove_165 rfl rfl (Nat.le_of_ble_eq_true rfl) (by omega) (by decide) rfl ?_
          refine qw_istore dX9_remove_168 rfl (by decide) ?_
          refine qw_weak _ (by simp [lq_le]) (l_X9_remove h9 (rf := M1 (m + 2) (15 + 30 * k + 3 * q) / 2) (g := M1 (m + 2)) (M0 := lq_up M2 (m + 2) (12 + 30 * k) (M1 (m + 2) (12 + 30 * k) - 1)) (i := k) (p := q) (by omega) hb.2.2.2.2.2.1 hq (fun M3 k1 k2 => ?_) (30 * 20 + 100) _ _ (Nat.le_refl _) (by omega) (by omega) (by rw [lq_up_a, e2]; exact g_dli_0) (fun b hb => rfl))
          refine qw_aload_n 0 dX9_remove_206 rfl rfl ?_
          refine qw_getr fX9_17 dX9_remove_207 h9.1 rfl ?_
          refine qw_bipush (nI 6) dX9_remove_210 (by decide) ?_
          refine qw_dup2 dX9_remove_212 rfl rfl ?_
          refine qw_iald dX9_remove_213 h9.da (by omega) (by omega) ?_
          refine qw_iload dX9_remove_214 rfl ?_
          refine qw_isub dX9_remove_216 ?_
          rw [q_subw (by omega)]
          refine qw_iast dX9_remove_217 h9.da (by omega) (by omega) ?_
          refine qw_iload dX9_remove_218 rfl ?_
          exact qw_ireturn rfl rfl dX9_remove_220 ⟨rfl, rfl, _, rfl, Or.inl (by rw [← hMd]; exact ⟨k, q, hk, hq, rfl, rfl, by rw [g_can, if_pos ⟨c76, Or.inl c44⟩]; decide, rfl, (hmu.go (q_dfr.of (fun b hb => by rw [lq_up_n _ _ _ hb, k2 b hb, lq_up_n _ _ _ hb])) (by rw [lq_up_a, k1]; rfl)).th hM1⟩), q_nf.rf⟩
      · refine qw_iload_n 2 dX9_remove_47 rfl rfl ?_
        refine qw_iconst (nI 1) dX9_remove_48 (by decide) ?_
        refine qw_addN dX9_remove_49 ?_
        refine qw_aload_n 0 dX9_remove_50 rfl rfl ?_
        refine qw_iload_n 1 dX9_remove_51 rfl rfl ?_
        refine qw_cvp [_] (k_X9_countOf h9 (by omega)) mX9_185 dX9_remove_52 h9.1 rfl rfl rfl (Nat.le_of_ble_eq_true rfl) (by omega) (by decide) rfl ?_
        refine qw_icmp_geN 62 dX9_remove_55 (by decide) (by omega) (by omega) (fun c55 => ?_) (fun c55 => ?_)
        · refine qw_iconst (nI 0) dX9_remove_62 (by decide) ?_
          refine qw_istore_n 3 dX9_remove_63 rfl rfl (by decide) ?_
          refine qw_aload_n 0 dX9_remove_64 rfl rfl ?_
          refine qw_aload_n 0 dX9_remove_65 rfl rfl ?_
          refine qw_getr fX9_17 dX9_remove_66 h9.1 rfl ?_
          refine qw_iload_n 1 dX9_remove_69 rfl rfl ?_
          refine qw_csp [_] (k_X9_at) mX9_44 dX9_remove_70 rfl rfl (Nat.le_of_ble_eq_true rfl) (by omega) (by decide) rfl ?_
          refine qw_iconst (nI 4) dX9_remove_73 (by decide) ?_
          refine qw_addN dX9_remove_74 ?_
          refine qw_iaj (11 + 30 * k) (by omega) dX9_remove_75 h9.da (by omega) (by omega) ?_
          refine qw_if_neN 114 dX9_remove_76 (by decide) (by omega) (fun c76 => ?_) (fun c76 => ?_)
          · refine qw_iconst (nI 1) dX9_remove_114 (by decide) ?_
            refine qw_goto 119 dX9_remove_115 (by decide) ?_
            refine qw_iconst (nI 3) dX9_remove_119 (by decide) ?_
            refine qw_cvi [_, _] (k_X9_fails h9 (by decide) (by decide) h0) mX9_166 dX9_remove_120 h9.1 rfl rfl rfl (Nat.le_of_ble_eq_true rfl) (by omega) (by decide) rfl (fun x1 M2 h1 => ?_)
            obtain ⟨-, rfl, hz⟩ := h1.resolve_left (fun q => absurd q.1 (by decide))
            rw [hz]
            refine qw_if_eqN 128 dX9_remove_123 (by decide) (by omega) (fun c123 => absurd c123 (by decide)) (fun c123 => ?_)
            refine qw_iconst (nI 0) dX9_remove_126 (by decide) ?_
            exact qw_ireturn rfl rfl dX9_remove_127 ⟨rfl, rfl, _, rfl, Or.inr ⟨3, by rw [← hMd]; exact Or.inr (Or.inr ⟨rfl, k, q, hk, hq, rfl, rfl, by rw [g_can, if_neg (fun q9 => c76 q9.1)]⟩), hMu 3⟩, q_nf.rf⟩
          · refine qw_iload_n 3 dX9_remove_79 rfl rfl ?_
            refine qw_if_eqN 118 dX9_remove_80 (by decide) (by omega) (fun c80 => ?_) (fun c80 => absurd rfl c80)
            refine qw_iconst (nI 0) dX9_remove_118 (by decide) ?_
            refine qw_iconst (nI 3) dX9_remove_119 (by decide) ?_
            refine qw_cvi [_, _] (k_X9_fails h9 (by decide) (by decide) h0) mX9_166 dX9_remove_120 h9.1 rfl rfl rfl (Nat.le_of_ble_eq_true rfl) (by omega) (by decide) rfl (fun x1 M2 h1 => ?_)
            obtain ⟨-, rfl, hz⟩ := h1.resolve_right (fun q => absurd q.1 (by decide))
            rw [hz]
            refine qw_if_eqN 128 dX9_remove_123 (by decide) (by omega) (fun c123 => ?_) (fun c123 => absurd rfl c123)
            refine qw_aload_n 0 dX9_remove_128 rfl rfl ?_
            refine qw_cvv [] (k_X9_remember h9 hH1 h0 hd1) mX9_178 dX9_remove_129 h9.1 rfl rfl rfl (Nat.le_of_ble_eq_true rfl) (by omega) (by decide) rfl (fun M2 hmu => ?_)
            have e2 := hmu.1
            refine qw_aload_n 0 dX9_remove_132 rfl rfl ?_
            refine qw_getr fX9_17 dX9_remove_133 h9.1 rfl ?_
            refine qw_iload_n 1 dX9_remove_136 rfl rfl ?_
            refine qw_iload_n 2 dX9_remove_137 rfl rfl ?_
            refine qw_csp [_, _] (k_X9_spotAt) mX9_188 dX9_remove_138 rfl rfl (Nat.le_of_ble_eq_true rfl) (by omega) (by decide) rfl ?_
            refine qw_iconst (nI 2) dX9_remove_141 (by decide) ?_
            refine qw_addN dX9_remove_142 ?_
            refine qw_iaj (15 + 30 * k + 3 * q) (by omega) dX9_remove_143 h9.da (by omega) (by omega) ?_
            rw [e2]
            refine qw_iconst (nI 2) dX9_remove_144 (by decide) ?_
            refine qw_divN (by omega) (by decide) (by decide) dX9_remove_145 ?_
            refine qw_istore dX9_remove_146 rfl (by decide) ?_
            refine qw_aload_n 0 dX9_remove_148 rfl rfl ?_
            refine qw_getr fX9_17 dX9_remove_149 h9.1 rfl ?_
            refine qw_iload_n 1 dX9_remove_152 rfl rfl ?_
            refine qw_csp [_] (k_X9_at) mX9_44 dX9_remove_153 rfl rfl (Nat.le_of_ble_eq_true rfl) (by omega) (by decide) rfl ?_
            refine qw_iconst (nI 5) dX9_remove_156 (by decide) ?_
            refine qw_addN dX9_remove_157 ?_
            refine qw_dup2 dX9_remove_158 rfl rfl ?_
            refine qw_iaj (12 + 30 * k) (by omega) dX9_remove_159 h9.da (by omega) (by omega) ?_
            rw [e2]
            refine qw_iconst (nI 1) dX9_remove_160 (by decide) ?_
            refine qw_subN (by omega) dX9_remove_161 ?_
            refine qw_iasj (12 + 30 * k) (by omega) dX9_remove_162 h9.da (by omega) (by omega) ?_
            refine qw_iload_n 1 dX9_remove_163 rfl rfl ?_
            refine qw_iload_n 2 dX9_remove_164 rfl rfl ?_
            refine qw_csp [_, _] (k_X9_spotAt) mX9_188 dX9_remove_165 rfl rfl (Nat.le_of_ble_eq_true rfl) (by omega) (by decide) rfl ?_
            refine qw_istore dX9_remove_168 rfl (by decide) ?_
            refine qw_weak _ (by simp [lq_le]) (l_X9_remove h9 (rf := M1 (m + 2) (15 + 30 * k + 3 * q) / 2) (g := M1 (m + 2)) (M0 := lq_up M2 (m + 2) (12 + 30 * k) (M1 (m + 2) (12 + 30 * k) - 1)) (i := k) (p := q) (by omega) hb.2.2.2.2.2.1 hq (fun M3 k1 k2 => ?_) (30 * 20 + 100) _ _ (Nat.le_refl _) (by omega) (by omega) (by rw [lq_up_a, e2]; exact g_dli_0) (fun b hb => rfl))
            refine qw_aload_n 0 dX9_remove_206 rfl rfl ?_
            refine qw_getr fX9_17 dX9_remove_207 h9.1 rfl ?_
            refine qw_bipush (nI 6) dX9_remove_210 (by decide) ?_
            refine qw_dup2 dX9_remove_212 rfl rfl ?_
            refine qw_iald dX9_remove_213 h9.da (by omega) (by omega) ?_
            refine qw_iload dX9_remove_214 rfl ?_
            refine qw_isub dX9_remove_216 ?_
            rw [q_subw (by omega)]
            refine qw_iast dX9_remove_217 h9.da (by omega) (by omega) ?_
            refine qw_iload dX9_remove_218 rfl ?_
            exact qw_ireturn rfl rfl dX9_remove_220 ⟨rfl, rfl, _, rfl, Or.inl (by rw [← hMd]; exact ⟨k, q, hk, hq, rfl, rfl, by rw [g_can, if_pos ⟨c76, Or.inr (Or.inl c55)⟩]; decide, rfl, (hmu.go (q_dfr.of (fun b hb => by rw [lq_up_n _ _ _ hb, k2 b hb, lq_up_n _ _ _ hb])) (by rw [lq_up_a, k1]; rfl)).th hM1⟩), q_nf.rf⟩
        · refine qw_iconst (nI 1) dX9_remove_58 (by decide) ?_
          refine qw_goto 63 dX9_remove_59 (by decide) ?_
          refine qw_istore_n 3 dX9_remove_63 rfl rfl (by decide) ?_
          refine qw_aload_n 0 dX9_remove_64 rfl rfl ?_
          refine qw_aload_n 0 dX9_remove_65 rfl rfl ?_
          refine qw_getr fX9_17 dX9_remove_66 h9.1 rfl ?_
          refine qw_iload_n 1 dX9_remove_69 rfl rfl ?_
          refine qw_csp [_] (k_X9_at) mX9_44 dX9_remove_70 rfl rfl (Nat.le_of_ble_eq_true rfl) (by omega) (by decide) rfl ?_
          refine qw_iconst (nI 4) dX9_remove_73 (by decide) ?_
          refine qw_addN dX9_remove_74 ?_
          refine qw_iaj (11 + 30 * k) (by omega) dX9_remove_75 h9.da (by omega) (by omega) ?_
          refine qw_if_neN 114 dX9_remove_76 (by decide) (by omega) (fun c76 => ?_) (fun c76 => ?_)
          · refine qw_iconst (nI 1) dX9_remove_114 (by decide) ?_
            refine qw_goto 119 dX9_remove_115 (by decide) ?_
            refine qw_iconst (nI 3) dX9_remove_119 (by decide) ?_
            refine qw_cvi [_, _] (k_X9_fails h9 (by decide) (by decide) h0) mX9_166 dX9_remove_120 h9.1 rfl rfl rfl (Nat.le_of_ble_eq_true rfl) (by omega) (by decide) rfl (fun x1 M2 h1 => ?_)
            obtain ⟨-, rfl, hz⟩ := h1.resolve_left (fun q => absurd q.1 (by decide))
            rw [hz]
            refine qw_if_eqN 128 dX9_remove_123 (by decide) (by omega) (fun c123 => absurd c123 (by decide)) (fun c123 => ?_)
            refine qw_iconst (nI 0) dX9_remove_126 (by decide) ?_
            exact qw_ireturn rfl rfl dX9_remove_127 ⟨rfl, rfl, _, rfl, Or.inr ⟨3, by rw [← hMd]; exact Or.inr (Or.inr ⟨rfl, k, q, hk, hq, rfl, rfl, by rw [g_can, if_neg (fun q9 => c76 q9.1)]⟩), hMu 3⟩, q_nf.rf⟩
          · refine qw_iload_n 3 dX9_remove_79 rfl rfl ?_
            refine qw_if_eqN 118 dX9_remove_80 (by decide) (by omega) (fun c80 => absurd c80 (by decide)) (fun c80 => ?_)
            have hsm := (hW1.sp hk (p := q - 1) (by omega)).1
            have hsn := (hW1.sp hk (p := q + 1) (by omega)).1
            have hcl := (hW1.cl (s := M1 (m + 2) (13 + 30 * k + 3 * (q - 1))) (t := M1 (m + 2) (13 + 30 * k + 3 * (q + 1))) (by omega) (by omega)).1
            refine qw_aload_n 0 dX9_remove_83 rfl rfl ?_
            refine qw_aload_n 0 dX9_remove_84 rfl rfl ?_
            refine qw_getr fX9_17 dX9_remove_85 h9.1 rfl ?_
            refine qw_iload_n 1 dX9_remove_88 rfl rfl ?_
            refine qw_iload_n 2 dX9_remove_89 rfl rfl ?_
            refine qw_iconst (nI 1) dX9_remove_90 (by decide) ?_
            refine qw_subN (by omega) dX9_remove_91 ?_
            refine qw_csp [_, _] (k_X9_spotAt) mX9_188 dX9_remove_92 rfl rfl (Nat.le_of_ble_eq_true rfl) (by omega) (by decide) rfl ?_
            refine qw_iald dX9_remove_95 h9.da (by omega) (by omega) ?_
            refine qw_aload_n 0 dX9_remove_96 rfl rfl ?_
            refine qw_getr fX9_17 dX9_remove_97 h9.1 rfl ?_
            refine qw_iload_n 1 dX9_remove_100 rfl rfl ?_
            refine qw_iload_n 2 dX9_remove_101 rfl rfl ?_
            refine qw_iconst (nI 1) dX9_remove_102 (by decide) ?_
            refine qw_addN dX9_remove_103 ?_
            refine qw_csp [_, _] (k_X9_spotAt) mX9_188 dX9_remove_104 rfl rfl (Nat.le_of_ble_eq_true rfl) (by omega) (by decide) rfl ?_
            refine qw_iald dX9_remove_107 h9.da (by omega) (by omega) ?_
            refine qw_cvp [_, _] (k_X9_clash h9 hW1 (by omega) (by omega)) mX9_195 dX9_remove_108 h9.1 rfl rfl rfl (Nat.le_of_ble_eq_true rfl) (by omega) (by decide) rfl ?_
            refine qw_if_eqN 118 dX9_remove_111 (by decide) (by omega) (fun c111 => ?_) (fun c111 => ?_)
            · refine qw_iconst (nI 0) dX9_remove_118 (by decide) ?_
              refine qw_iconst (nI 3) dX9_remove_119 (by decide) ?_
              refine qw_cvi [_, _] (k_X9_fails h9 (by decide) (by decide) h0) mX9_166 dX9_remove_120 h9.1 rfl rfl rfl (Nat.le_of_ble_eq_true rfl) (by omega) (by decide) rfl (fun x1 M2 h1 => ?_)
              obtain ⟨-, rfl, hz⟩ := h1.resolve_right (fun q => absurd q.1 (by decide))
              rw [hz]
              refine qw_if_eqN 128 dX9_remove_123 (by decide) (by omega) (fun c123 => ?_) (fun c123 => absurd rfl c123)
              refine qw_aload_n 0 dX9_remove_128 rfl rfl ?_
              refine qw_cvv [] (k_X9_remember h9 hH1 h0 hd1) mX9_178 dX9_remove_129 h9.1 rfl rfl rfl (Nat.le_of_ble_eq_true rfl) (by omega) (by decide) rfl (fun M2 hmu => ?_)
              have e2 := hmu.1
              refine qw_aload_n 0 dX9_remove_132 rfl rfl ?_
              refine qw_getr fX9_17 dX9_remove_133 h9.1 rfl ?_
              refine qw_iload_n 1 dX9_remove_136 rfl rfl ?_
              refine qw_iload_n 2 dX9_remove_137 rfl rfl ?_
              refine qw_csp [_, _] (k_X9_spotAt) mX9_188 dX9_remove_138 rfl rfl (Nat.le_of_ble_eq_true rfl) (by omega) (by decide) rfl ?_
              refine qw_iconst (nI 2) dX9_remove_141 (by decide) ?_
              refine qw_addN dX9_remove_142 ?_
              refine qw_iaj (15 + 30 * k + 3 * q) (by omega) dX9_remove_143 h9.da (by omega) (by omega) ?_
              rw [e2]
              refine qw_iconst (nI 2) dX9_remove_144 (by decide) ?_
              refine qw_divN (by omega) (by decide) (by decide) dX9_remove_145 ?_
              refine qw_istore dX9_remove_146 rfl (by decide) ?_
              refine qw_aload_n 0 dX9_remove_148 rfl rfl ?_
              refine qw_getr fX9_17 dX9_remove_149 h9.1 rfl ?_
              refine qw_iload_n 1 dX9_remove_152 rfl rfl ?_
              refine qw_csp [_] (k_X9_at) mX9_44 dX9_remove_153 rfl rfl (Nat.le_of_ble_eq_true rfl) (by omega) (by decide) rfl ?_
              refine qw_iconst (nI 5) dX9_remove_156 (by decide) ?_
              refine qw_addN dX9_remove_157 ?_
              refine qw_dup2 dX9_remove_158 rfl rfl ?_
              refine qw_iaj (12 + 30 * k) (by omega) dX9_remove_159 h9.da (by omega) (by omega) ?_
              rw [e2]
              refine qw_iconst (nI 1) dX9_remove_160 (by decide) ?_
              refine qw_subN (by omega) dX9_remove_161 ?_
              refine qw_iasj (12 + 30 * k) (by omega) dX9_remove_162 h9.da (by omega) (by omega) ?_
              refine qw_iload_n 1 dX9_remove_163 rfl rfl ?_
              refine qw_iload_n 2 dX9_remove_164 rfl rfl ?_
              refine qw_csp [_, _] (k_X9_spotAt) mX9_188 dX9_remove_165 rfl rfl (Nat.le_of_ble_eq_true rfl) (by omega) (by decide) rfl ?_
              refine qw_istore dX9_remove_168 rfl (by decide) ?_
              refine qw_weak _ (by simp [lq_le]) (l_X9_remove h9 (rf := M1 (m + 2) (15 + 30 * k + 3 * q) / 2) (g := M1 (m + 2)) (M0 := lq_up M2 (m + 2) (12 + 30 * k) (M1 (m + 2) (12 + 30 * k) - 1)) (i := k) (p := q) (by omega) hb.2.2.2.2.2.1 hq (fun M3 k1 k2 => ?_) (30 * 20 + 100) _ _ (Nat.le_refl _) (by omega) (by omega) (by rw [lq_up_a, e2]; exact g_dli_0) (fun b hb => rfl))
              refine qw_aload_n 0 dX9_remove_206 rfl rfl ?_
              refine qw_getr fX9_17 dX9_remove_207 h9.1 rfl ?_
              refine qw_bipush (nI 6) dX9_remove_210 (by decide) ?_
              refine qw_dup2 dX9_remove_212 rfl rfl ?_
              refine qw_iald dX9_remove_213 h9.da (by omega) (by omega) ?_
              refine qw_iload dX9_remove_214 rfl ?_
              refine qw_isub dX9_remove_216 ?_
              rw [q_subw (by omega)]
              refine qw_iast dX9_remove_217 h9.da (by omega) (by omega) ?_
              refine qw_iload dX9_remove_218 rfl ?_
              exact qw_ireturn rfl rfl dX9_remove_220 ⟨rfl, rfl, _, rfl, Or.inl (by rw [← hMd]; exact ⟨k, q, hk, hq, rfl, rfl, by rw [g_can, if_pos ⟨c76, Or.inr (Or.inr c111)⟩]; decide, rfl, (hmu.go (q_dfr.of (fun b hb => by rw [lq_up_n _ _ _ hb, k2 b hb, lq_up_n _ _ _ hb])) (by rw [lq_up_a, k1]; rfl)).th hM1⟩), q_nf.rf⟩
            · refine qw_iconst (nI 1) dX9_remove_114 (by decide) ?_
              refine qw_goto 119 dX9_remove_115 (by decide) ?_
              refine qw_iconst (nI 3) dX9_remove_119 (by decide) ?_
              refine qw_cvi [_, _] (k_X9_fails h9 (by decide) (by decide) h0) mX9_166 dX9_remove_120 h9.1 rfl rfl rfl (Nat.le_of_ble_eq_true rfl) (by omega) (by decide) rfl (fun x1 M2 h1 => ?_)
              obtain ⟨-, rfl, hz⟩ := h1.resolve_left (fun q => absurd q.1 (by decide))
              rw [hz]
              refine qw_if_eqN 128 dX9_remove_123 (by decide) (by omega) (fun c123 => absurd c123 (by decide)) (fun c123 => ?_)
              refine qw_iconst (nI 0) dX9_remove_126 (by decide) ?_
              exact qw_ireturn rfl rfl dX9_remove_127 ⟨rfl, rfl, _, rfl, Or.inr ⟨3, by rw [← hMd]; exact Or.inr (Or.inr ⟨rfl, k, q, hk, hq, rfl, rfl, by rw [g_can, if_neg (fun q9 => by rcases q9.2 with z9 | z9 | z9; omega; omega; exact c111 z9)]⟩), hMu 3⟩, q_nf.rf⟩
    · refine qw_iconst (nI 1) dX9_remove_29 (by decide) ?_
      refine qw_goto 34 dX9_remove_30 (by decide) ?_
      refine qw_iconst (nI 2) dX9_remove_34 (by decide) ?_
      refine qw_cvi [_, _] (k_X9_fails h9 (by decide) (by decide) h0) mX9_166 dX9_remove_35 h9.1 rfl rfl rfl (Nat.le_of_ble_eq_true rfl) (by omega) (by decide) rfl (fun x1 M2 h1 => ?_)
      obtain ⟨-, rfl, hz⟩ := h1.resolve_left (fun q => absurd q.1 (by decide))
      rw [hz]
      refine qw_if_eqN 43 dX9_remove_38 (by decide) (by omega) (fun c38 => absurd c38 (by decide)) (fun c38 => ?_)
      refine qw_iconst (nI 0) dX9_remove_41 (by decide) ?_
      exact qw_ireturn rfl rfl dX9_remove_42 ⟨rfl, rfl, _, rfl, Or.inr ⟨2, by rw [← hMd]; exact Or.inr (Or.inl ⟨rfl, k, hk, rfl, q_b_eq c26⟩), hMu 2⟩, q_nf.rf⟩
  · refine qw_if_neN 41 dX9_remove_10 (by decide) (by omega) (fun c10 => ?_) (fun c10 => absurd c10 (by decide))
    refine qw_iconst (nI 0) dX9_remove_41 (by decide) ?_
    exact qw_ireturn rfl rfl dX9_remove_42 ⟨rfl, rfl, _, rfl, Or.inr ⟨1, by rw [← hMd]; exact Or.inl ⟨rfl, v1⟩, hMu 1⟩, q_nf.rf⟩
theorem k_X9_undo (h9 : sh9 S m fh fo) (hW : g_wf (M (m + 2))) {u : Nat} {H : Nat → Nat → Nat} (hH : q_hr M m u H) (hd : H 0 = M (m + 2)) : LM G YX9_undo 1 0 0 [.ref m] z S M N (lq_mi z S N (fun x M3 => (u = 0 ∧ x = -1 ∧ M3 = lq_up M m 0 0) ∨ (0 < u ∧ x = nI (u - 1) ∧ (∀ k, k < 2663 → M3 (m + 2) k = H 1 k) ∧ q_hr M3 m (u - 1) (fun j => H (j + 1)) ∧ M3 m 0 = 0 ∧ q_mf m M M3))) lq_no := by
  refine LM.of (by decide) rfl [some (.ref m)] rfl (Nat.le_of_ble_eq_true rfl) ?_
  refine qw_aload_n 0 dX9_undo_0 rfl rfl ?_
  refine qw_iconst (nI 0) dX9_undo_1 (by decide) ?_
  refine qw_puti fX9_41 dX9_undo_2 h9.1 rfl ?_
  have hM0 := lq_up_s M m 0 0
  have hMd := lq_up_n M (a := m) (b := m + 2) 0 0 (by omega)
  have hMu := fun e => lq_up_up M m 0 0 e
  have hMr := fun b (hb : b ≠ m) => lq_up_n M (a := m) (b := b) 0 0 hb
  have hMm := fun j (hj : j ≠ 0) => lq_up_c M (a := m) (k := 0) (j := j) 0 hj
  revert hM0 hMd hMu hMr hMm
  generalize hM1 : lq_up M m 0 0 = M1
  intro h0 hMd hMu hMr hMm
  have hW1 : g_wf (M1 (m + 2)) := by rw [hMd]; exact hW
  have h20 := hW1.nb
  have h8 := hW1.ns
  have h160 := hW1.no
  have hH1 : q_hr M1 m u H := hH.th hM1
  have hd1 : H 0 = M1 (m + 2) := by rw [hMd]; exact hd
  obtain ⟨hu, hu8, hr⟩ := hH1
  refine qw_aload_n 0 dX9_undo_5 rfl rfl ?_
  refine qw_geti fX9_262 dX9_undo_6 h9.1 rfl ?_
  rw [hu]
  refine qw_if_neN 14 dX9_undo_9 (by decide) (by omega) (fun c9 => ?_) (fun c9 => ?_)
  · refine qw_aload_n 0 dX9_undo_14 rfl rfl ?_
    refine qw_dup dX9_undo_15 rfl ?_
    refine qw_geti fX9_262 dX9_undo_16 h9.1 rfl ?_
    rw [hu]
    refine qw_iconst (nI 1) dX9_undo_19 (by decide) ?_
    refine qw_subN (by omega) dX9_undo_20 ?_
    refine qw_puti fX9_262 dX9_undo_21 h9.1 rfl ?_
    refine qw_aload_n 0 dX9_undo_24 rfl rfl ?_
    refine qw_getr fX9_25 dX9_undo_25 h9.1 rfl ?_
    refine qw_aload_n 0 dX9_undo_28 rfl rfl ?_
    refine qw_geti fX9_262 dX9_undo_29 h9.1 rfl ?_
    rw [lq_up_s]
    refine qw_aald dX9_undo_32 h9.hi rfl rfl (by omega) (by omega) (h9.hf (by omega)) ?_
    refine qw_aload_n 0 dX9_undo_33 rfl rfl ?_
    refine qw_getr fX9_17 dX9_undo_34 h9.1 rfl ?_
    refine qw_csv [_, _] (k_X9_copy h9.da (h9.hc (k := u - 1) (by omega)) (by omega)) mX9_181 dX9_undo_37 rfl rfl (Nat.le_of_ble_eq_true rfl) (by omega) (by decide) rfl (fun M3 h3 => ?_)
    refine qw_aload_n 0 dX9_undo_40 rfl rfl ?_
    refine qw_geti fX9_262 dX9_undo_41 h9.1 rfl ?_
    exact qw_ireturn rfl rfl dX9_undo_44 ⟨rfl, rfl, rfl, _, rfl, Or.inr ⟨by omega, by rw [h3.2 m (by omega), lq_up_s], fun k hk => by
      rw [h3.1 k hk, lq_up_n _ _ _ (by omega)]
      exact hr 1 (by decide) (by omega) k hk, ⟨by rw [h3.2 m (by omega), lq_up_s], by omega, fun j j1 j2 k hk => by
      rw [h3.2 _ (by omega), lq_up_n _ _ _ (by omega), show u - 1 - j = u - (j + 1) by omega]
      exact hr (j + 1) (by omega) (by omega) k hk⟩, by rw [h3.2 m (by omega), lq_up_c _ _ (by decide)]; exact h0, q_mf.th hM1 ⟨fun b hb => by rw [h3.2 b (by omega), lq_up_n _ _ _ (by omega)], by rw [h3.2 _ (by omega), lq_up_n _ _ _ (by omega)], fun j j0 j1 => by rw [h3.2 _ (by omega), lq_up_c _ _ j1]⟩⟩⟩
  · refine qw_iconst (-1) dX9_undo_12 (by decide) ?_
    exact qw_ireturn rfl rfl dX9_undo_13 ⟨rfl, rfl, rfl, _, rfl, Or.inl ⟨c9, rfl, rfl⟩⟩
end R8
