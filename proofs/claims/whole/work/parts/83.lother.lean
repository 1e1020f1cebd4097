/-! THE LAW: its other calls -/
theorem q_I.app {b m u : Nat} {H : Nat → Nat → Nat} {tk : Nat → Nat → Nat × Nat} {n : Nat → Nat} {M M2 : lq_M} {x0 x1 x2 x3 x4 : Int32} (h : q_I b m u H tk n M) (hb : b + 1607 ≤ m) (hf : M m 2 ≤ 780) (a2 : M2 m 2 = q_app M b x0 x1 x2 x3 x4 m 2 + 20) (a3 : ∀ j, j ≠ 0 → j ≠ 2 → M2 m j = q_app M b x0 x1 x2 x3 x4 m j) (a4 : ∀ c, c ≠ m → c ≠ m + 1 → M2 c = q_app M b x0 x1 x2 x3 x4 c) (a5 : ∀ j, M2 (m + 1) j = if q_app M b x0 x1 x2 x3 x4 m 2 ≤ j ∧ j < q_app M b x0 x1 x2 x3 x4 m 2 + 20 then q_ab x0 x1 x2 x3 x4 (j - q_app M b x0 x1 x2 x3 x4 m 2) else q_app M b x0 x1 x2 x3 x4 (m + 1) j) : q_I b m u H tk n M2 := by
  obtain ⟨s1, s2, s3, s4⟩ := q_app_sp (M := M) (b := b) (x0 := x0) (x1 := x1) (x2 := x2) (x3 := x3) (x4 := x4)
  obtain ⟨g1, ⟨k1, k2, k3⟩, g3, g4, g5, g6, g7, g8⟩ := h
  have em : q_app M b x0 x1 x2 x3 x4 m = M m := s3 m (by omega) (by omega)
  have em1 : q_app M b x0 x1 x2 x3 x4 (m + 1) = M (m + 1) := s3 _ (by omega) (by omega)
  rw [em] at a2 a3 a5
  rw [em1] at a5
  have e : ∀ c, c ≠ m → c ≠ m + 1 → c ≠ b → c ≠ b + 1 → M2 c = M c := fun c c1 c2 c3 c4 => by rw [a4 c c1 c2]; exact s3 c c3 c4
  have eb : ∀ j, M2 b j = q_app M b x0 x1 x2 x3 x4 b j := fun j => by rw [a4 b (by omega) (by omega)]
  have eb1 : M2 (b + 1) = q_app M b x0 x1 x2 x3 x4 (b + 1) := a4 _ (by omega) (by omega)
  refine ⟨g1.eqM (fun x y1 y2 => e x (by omega) (by omega) (by omega) (by omega)), ⟨by rw [a3 11 (by decide) (by decide)]; exact k1, k2, fun j j1 j2 k hk => by rw [e _ (by omega) (by omega) (by omega) (by omega)]; exact k3 j j1 j2 k hk⟩, by rw [e (m + 2) (by omega) (by omega) (by omega) (by omega)]; exact g3, g4, by rw [eb 1, s1, a2, g5], by omega, fun j => ?_, by rw [eb 2, s2 2 (by decide), a3 7 (by decide) (by decide)]; exact g8⟩
  rw [eb1, s4 j, a5 j, g5]
  by_cases q : M m 2 ≤ j ∧ j < M m 2 + 20
  · rw [if_pos q, if_pos q]
    exact ⟨rfl, q_byt_lt _ _⟩
  · rw [if_neg q, if_neg q]
    exact g7 j
theorem q_I.undo {b m u : Nat} {H : Nat → Nat → Nat} {tk : Nat → Nat → Nat × Nat} {n : Nat → Nat} {M M1 M2 : lq_M} (h : q_I b m u H tk n M) (hb : b + 1607 ≤ m) (hu : 0 < u) (h1 : q_hi M1 (b + 139) (u - 1) (fun j => H (j + 1)) (fun j => tk (j + 1)) (fun j => n (j + 1))) (hf : q_fr (b + 139) (b + 1607) M M1) (h2 : ∀ k, k < 2663 → M2 (m + 2) k = H 1 k) (h3 : q_hr M2 m (u - 1) (fun j => H (j + 1))) (h5 : q_mf m M1 M2) : q_I b m (u - 1) (q_h0 (M2 (m + 2)) (fun j => H (j + 1))) (fun j => tk (j + 1)) (fun j => n (j + 1)) M2 := by
  obtain ⟨g1, ⟨k1, k2, k3⟩, g3, g4, g5, g6, g7, g8⟩ := h
  obtain ⟨a4, a5, a6⟩ := h5
  have e : ∀ x, x < b + 139 ∨ b + 1607 ≤ x → M1 x = M x := hf
  have e2 : ∀ x, x < m ∨ m + 273 ≤ x → M2 x = M1 x := a4
  have h9 := h1.re (g := M2 (m + 2)) (fun x x1 _ _ _ => h2 x (by omega))
  refine ⟨h9.eqM (fun x x1 x2 => e2 x (by omega)), ⟨h3.1, h3.2.1, fun j j1 j2 k hk => ?_⟩, rfl, fun j hj => ?_, by rw [a6 2 (by decide) (by decide), e2 b (by omega), e m (by omega), e b (by omega)]; exact g5, by rw [a6 2 (by decide) (by decide), e m (by omega)]; exact g6, fun j => ?_, by rw [a6 7 (by decide) (by decide), e2 b (by omega), e m (by omega), e b (by omega)]; exact g8⟩
  · rw [h3.2.2 j j1 j2 k hk, q_h0, if_neg (by omega)]
  · unfold q_h0
    by_cases q : j = 0
    · rw [if_pos q, q]
      exact (g4 1 (by omega)).go (h2 4 (by decide)) (fun x x1 x2 => h2 x x2) (fun q0 q1 => ⟨by rw [h2 0 (by decide)]; exact q0, by rw [h2 1 (by decide)]; exact q1⟩)
    · rw [if_neg q]; exact g4 (j + 1) (by omega)
  · rw [e2 (b + 1) (by omega), a5, e (b + 1) (by omega), e (m + 1) (by omega)]
    exact g7 j
section CVL
variable {G : lq_G} {Y : lq_Y} {d kc ks z : Nat} {S : lq_S} {M : lq_M} {N : lq_N} {Q : lq_P} {X : lq_E} {pc : Nat} {lv : List (Option Value)} {st : List Value}
variable {y : lq_Y} {d' n idx b ci : Nat} {fl : List (Option (Option Nat))}
theorem qw_cvl {P : Int64 → lq_M → Prop} (As : List Value) {rest : List Value} (hM : LM G y d' 0 0 (.ref b :: As) z S M N (lq_ml z S N P) lq_no) (hc : lq_cv Y.1.cls idx y n) (hd : decode Y.2.1 pc = .ok (.invokevirtual idx, 3)) (hS : S b = some (.inl (ci, fl))) (hcl : (lq_cl[ci]?).map (fun q => q.1) = some y.1.cls) (hn : As.length = n) (hst : st = As.reverse ++ .ref b :: rest) (hw : (rest.map fun v => v.category).sum ≤ 8) (hdd : d' + 1 ≤ d) (hm : y.2.2.1 ≤ 20) (hT : Y.2.2.2.2 = []) (k : ∀ (x : Int64) (M' : lq_M), P x M' → LW G Y d kc ks Q X z S M' N (pc + 3) lv (.long x :: rest)) : LW G Y d kc ks Q X z S M N pc lv st :=
  lq_callV hM hc hd hS hcl hn hst hw hdd hm (Nat.zero_le _) (Nat.zero_le _) hT (fun _ _ _ _ _ h => h.elim) (fun r z' S' M' N' h => by obtain ⟨rfl, rfl, rfl, x, rfl, h9⟩ := h; exact k x M' h9)
end CVL
section LO
variable {G : lq_G} {z : Nat} {S : lq_S} {M : lq_M} {N : lq_N}
theorem c_breaks {a b m o L i u kc ks : Nat} {xs : Nat → Int32} (hX : va_X a L xs (lq_u G) (lq_u G).heap) (hL : L ≤ 3072) (hNC : q_NC G) (hb : b + 1607 ≤ m) (hm : m + 273 ≤ o) (hi : i + 6 ≤ L) {H : Nat → Nat → Nat} {tk : Nat → Nat → Nat × Nat} {n : Nat → Nat} (hsh : q_sh9 S b m o) (hI : q_I b m u H tk n M) {Q : lq_P} (kk : ∀ (z1 : Nat) (S1 : lq_S) (M1 : lq_M) (N1 : lq_N) (u1 : Nat) (H1 : Nat → Nat → Nat) (tk1 : Nat → Nat → Nat × Nat) (n1 : Nat → Nat), q_sh9 S1 b m o → q_I b m u1 H1 tk1 n1 M1 → LW G YL_law 30 kc ks Q lq_no z1 S1 M1 N1 1729 [some (.ref a), some (.ref b), some (.ref m), some (.ref o), some (.int (nI i)), none, none] []) : LW G YL_law 30 (kc + 3) (ks + 18) Q lq_no z S M N 314 [some (.ref a), some (.ref b), some (.ref m), some (.ref o), some (.int (nI i)), none, none] [] := by
  obtain ⟨⟨F, fp, fb, h8⟩, ⟨x0, nb0, h5⟩, ⟨fD, σD, hD⟩, ⟨fh, fo, h9⟩, hO⟩ := id hsh
  refine qw_aload_n 1 dL_law_314 rfl rfl ?_
  refine qw_cvi [] (k_X8_breaks h8 hI.1) mL_104 dL_law_315 h8.1 rfl rfl rfl (Nat.le_of_ble_eq_true rfl) (by omega) (by decide) rfl (fun x1 M1 h1 => ?_)
  obtain ⟨rfl, hh1, hf1⟩ := h1
  have hI1 := hI.cl hb hh1 hf1
  refine qw_aload_n 2 dL_law_318 rfl rfl ?_
  refine qw_cvi [] (k_X9_breaks h9) mL_107 dL_law_319 h9.1 rfl rfl rfl (Nat.le_of_ble_eq_true rfl) (by omega) (by decide) rfl (fun x2 M2 h2 => ?_)
  obtain ⟨rfl, rfl⟩ := h2
  refine qw_icmp_eq 1729 dL_law_322 (by decide) (fun c322 => ?_) (fun c322 => absurd (by rw [hI1.2.2.1]) c322)
  exact qw_weak _ (by simp [lq_le]) (LW.room (by omega) (by omega) (kk _ _ _ _ _ _ _ _ hsh (hI1.up hb 0)))
theorem c_sponsors {a b m o L i u kc ks : Nat} {xs : Nat → Int32} (hX : va_X a L xs (lq_u G) (lq_u G).heap) (hL : L ≤ 3072) (hNC : q_NC G) (hb : b + 1607 ≤ m) (hm : m + 273 ≤ o) (hi : i + 6 ≤ L) {H : Nat → Nat → Nat} {tk : Nat → Nat → Nat × Nat} {n : Nat → Nat} (hsh : q_sh9 S b m o) (hI : q_I b m u H tk n M) {Q : lq_P} (kk : ∀ (z1 : Nat) (S1 : lq_S) (M1 : lq_M) (N1 : lq_N) (u1 : Nat) (H1 : Nat → Nat → Nat) (tk1 : Nat → Nat → Nat × Nat) (n1 : Nat → Nat), q_sh9 S1 b m o → q_I b m u1 H1 tk1 n1 M1 → LW G YL_law 30 kc ks Q lq_no z1 S1 M1 N1 1729 [some (.ref a), some (.ref b), some (.ref m), some (.ref o), some (.int (nI i)), none, none] []) : LW G YL_law 30 (kc + 3) (ks + 18) Q lq_no z S M N 327 [some (.ref a), some (.ref b), some (.ref m), some (.ref o), some (.int (nI i)), none, none] [] := by
  obtain ⟨⟨F, fp, fb, h8⟩, ⟨x0, nb0, h5⟩, ⟨fD, σD, hD⟩, ⟨fh, fo, h9⟩, hO⟩ := id hsh
  refine qw_aload_n 1 dL_law_327 rfl rfl ?_
  refine qw_cvi [] (k_X8_sponsors h8 hI.1) mL_108 dL_law_328 h8.1 rfl rfl rfl (Nat.le_of_ble_eq_true rfl) (by omega) (by decide) rfl (fun x1 M1 h1 => ?_)
  obtain ⟨rfl, hh1, hf1⟩ := h1
  have hI1 := hI.cl hb hh1 hf1
  refine qw_aload_n 2 dL_law_331 rfl rfl ?_
  refine qw_cvi [] (k_X9_sponsors h9) mL_111 dL_law_332 h9.1 rfl rfl rfl (Nat.le_of_ble_eq_true rfl) (by omega) (by decide) rfl (fun x2 M2 h2 => ?_)
  obtain ⟨rfl, rfl⟩ := h2
  refine qw_icmp_eq 1729 dL_law_335 (by decide) (fun c335 => ?_) (fun c335 => absurd (by rw [hI1.2.2.1]) c335)
  exact qw_weak _ (by simp [lq_le]) (LW.room (by omega) (by omega) (kk _ _ _ _ _ _ _ _ hsh (hI1.up hb 0)))
theorem c_income {a b m o L i u kc ks : Nat} {xs : Nat → Int32} (hX : va_X a L xs (lq_u G) (lq_u G).heap) (hL : L ≤ 3072) (hNC : q_NC G) (hb : b + 1607 ≤ m) (hm : m + 273 ≤ o) (hi : i + 6 ≤ L) {H : Nat → Nat → Nat} {tk : Nat → Nat → Nat × Nat} {n : Nat → Nat} (hsh : q_sh9 S b m o) (hI : q_I b m u H tk n M) {Q : lq_P} (kk : ∀ (z1 : Nat) (S1 : lq_S) (M1 : lq_M) (N1 : lq_N) (u1 : Nat) (H1 : Nat → Nat → Nat) (tk1 : Nat → Nat → Nat × Nat) (n1 : Nat → Nat), q_sh9 S1 b m o → q_I b m u1 H1 tk1 n1 M1 → LW G YL_law 30 kc ks Q lq_no z1 S1 M1 N1 1729 [some (.ref a), some (.ref b), some (.ref m), some (.ref o), some (.int (nI i)), none, none] []) : LW G YL_law 30 (kc + 3) (ks + 18) Q lq_no z S M N 995 [some (.ref a), some (.ref b), some (.ref m), some (.ref o), some (.int (nI i)), none, none] [] := by
  obtain ⟨⟨F, fp, fb, h8⟩, ⟨x0, nb0, h5⟩, ⟨fD, σD, hD⟩, ⟨fh, fo, h9⟩, hO⟩ := id hsh
  refine qw_aload_n 1 dL_law_995 rfl rfl ?_
  refine qw_cvi [] (k_X8_income h8 hI.1) mL_141 dL_law_996 h8.1 rfl rfl rfl (Nat.le_of_ble_eq_true rfl) (by omega) (by decide) rfl (fun x1 M1 h1 => ?_)
  obtain ⟨rfl, hh1, hf1⟩ := h1
  have hI1 := hI.cl hb hh1 hf1
  refine qw_aload_n 2 dL_law_999 rfl rfl ?_
  refine qw_cvi [] (k_X9_income h9) mL_144 dL_law_1000 h9.1 rfl rfl rfl (Nat.le_of_ble_eq_true rfl) (by omega) (by decide) rfl (fun x2 M2 h2 => ?_)
  obtain ⟨rfl, rfl⟩ := h2
  refine qw_icmp_eq 1729 dL_law_1003 (by decide) (fun c1003 => ?_) (fun c1003 => absurd (by rw [hI1.2.2.1]) c1003)
  exact qw_weak _ (by simp [lq_le]) (LW.room (by omega) (by omega) (kk _ _ _ _ _ _ _ _ hsh (hI1.up hb 0)))
theorem c_owed {a b m o L i u kc ks : Nat} {xs : Nat → Int32} (hX : va_X a L xs (lq_u G) (lq_u G).heap) (hL : L ≤ 3072) (hNC : q_NC G) (hb : b + 1607 ≤ m) (hm : m + 273 ≤ o) (hi : i + 6 ≤ L) {H : Nat → Nat → Nat} {tk : Nat → Nat → Nat × Nat} {n : Nat → Nat} (hsh : q_sh9 S b m o) (hI : q_I b m u H tk n M) {Q : lq_P} (kk : ∀ (z1 : Nat) (S1 : lq_S) (M1 : lq_M) (N1 : lq_N) (u1 : Nat) (H1 : Nat → Nat → Nat) (tk1 : Nat → Nat → Nat × Nat) (n1 : Nat → Nat), q_sh9 S1 b m o → q_I b m u1 H1 tk1 n1 M1 → LW G YL_law 30 kc ks Q lq_no z1 S1 M1 N1 1729 [some (.ref a), some (.ref b), some (.ref m), some (.ref o), some (.int (nI i)), none, none] []) : LW G YL_law 30 (kc + 3) (ks + 18) Q lq_no z S M N 1008 [some (.ref a), some (.ref b), some (.ref m), some (.ref o), some (.int (nI i)), none, none] [] := by
  obtain ⟨⟨F, fp, fb, h8⟩, ⟨x0, nb0, h5⟩, ⟨fD, σD, hD⟩, ⟨fh, fo, h9⟩, hO⟩ := id hsh
  refine qw_aload_n 1 dL_law_1008 rfl rfl ?_
  refine qw_cvi [] (k_X8_owed h8 hI.1) mL_145 dL_law_1009 h8.1 rfl rfl rfl (Nat.le_of_ble_eq_true rfl) (by omega) (by decide) rfl (fun x1 M1 h1 => ?_)
  obtain ⟨rfl, hh1, hf1⟩ := h1
  have hI1 := hI.cl hb hh1 hf1
  refine qw_aload_n 2 dL_law_1012 rfl rfl ?_
  refine qw_cvi [] (k_X9_owed h9) mL_148 dL_law_1013 h9.1 rfl rfl rfl (Nat.le_of_ble_eq_true rfl) (by omega) (by decide) rfl (fun x2 M2 h2 => ?_)
  obtain ⟨rfl, rfl⟩ := h2
  refine qw_icmp_eq 1729 dL_law_1016 (by decide) (fun c1016 => ?_) (fun c1016 => absurd (by rw [hI1.2.2.1]) c1016)
  exact qw_weak _ (by simp [lq_le]) (LW.room (by omega) (by omega) (kk _ _ _ _ _ _ _ _ hsh (hI1.up hb 0)))
theorem c_errorOffset {a b m o L i u kc ks : Nat} {xs : Nat → Int32} (hX : va_X a L xs (lq_u G) (lq_u G).heap) (hL : L ≤ 3072) (hNC : q_NC G) (hb : b + 1607 ≤ m) (hm : m + 273 ≤ o) (hi : i + 6 ≤ L) {H : Nat → Nat → Nat} {tk : Nat → Nat → Nat × Nat} {n : Nat → Nat} (hsh : q_sh9 S b m o) (hI : q_I b m u H tk n M) {Q : lq_P} (kk : ∀ (z1 : Nat) (S1 : lq_S) (M1 : lq_M) (N1 : lq_N) (u1 : Nat) (H1 : Nat → Nat → Nat) (tk1 : Nat → Nat → Nat × Nat) (n1 : Nat → Nat), q_sh9 S1 b m o → q_I b m u1 H1 tk1 n1 M1 → LW G YL_law 30 kc ks Q lq_no z1 S1 M1 N1 1729 [some (.ref a), some (.ref b), some (.ref m), some (.ref o), some (.int (nI i)), none, none] []) : LW G YL_law 30 (kc + 3) (ks + 18) Q lq_no z S M N 301 [some (.ref a), some (.ref b), some (.ref m), some (.ref o), some (.int (nI i)), none, none] [] := by
  obtain ⟨⟨F, fp, fb, h8⟩, ⟨x0, nb0, h5⟩, ⟨fD, σD, hD⟩, ⟨fh, fo, h9⟩, hO⟩ := id hsh
  refine qw_aload_n 1 dL_law_301 rfl rfl ?_
  refine qw_cvp [] (k_X8_errorOffset h8) mL_100 dL_law_302 h8.1 rfl rfl rfl (Nat.le_of_ble_eq_true rfl) (by omega) (by decide) rfl ?_
  refine qw_aload_n 2 dL_law_305 rfl rfl ?_
  refine qw_cvi [] (k_X9_errorOffset h9) mL_103 dL_law_306 h9.1 rfl rfl rfl (Nat.le_of_ble_eq_true rfl) (by omega) (by decide) rfl (fun x2 M2 h2 => ?_)
  obtain ⟨rfl, rfl⟩ := h2
  refine qw_icmp_eq 1729 dL_law_309 (by decide) (fun c309 => ?_) (fun c309 => absurd (by rw [hI.2.2.2.2.2.2.2]) c309)
  exact qw_weak _ (by simp [lq_le]) (LW.room (by omega) (by omega) (kk _ _ _ _ _ _ _ _ hsh (hI.up hb 0)))
theorem c_checksum {a b m o L i u kc ks : Nat} {xs : Nat → Int32} (hX : va_X a L xs (lq_u G) (lq_u G).heap) (hL : L ≤ 3072) (hNC : q_NC G) (hb : b + 1607 ≤ m) (hm : m + 273 ≤ o) (hi : i + 6 ≤ L) {H : Nat → Nat → Nat} {tk : Nat → Nat → Nat × Nat} {n : Nat → Nat} (hsh : q_sh9 S b m o) (hI : q_I b m u H tk n M) {Q : lq_P} (kk : ∀ (z1 : Nat) (S1 : lq_S) (M1 : lq_M) (N1 : lq_N) (u1 : Nat) (H1 : Nat → Nat → Nat) (tk1 : Nat → Nat → Nat × Nat) (n1 : Nat → Nat), q_sh9 S1 b m o → q_I b m u1 H1 tk1 n1 M1 → LW G YL_law 30 kc ks Q lq_no z1 S1 M1 N1 1729 [some (.ref a), some (.ref b), some (.ref m), some (.ref o), some (.int (nI i)), none, none] []) : LW G YL_law 30 (kc + 3) (ks + 18) Q lq_no z S M N 1715 [some (.ref a), some (.ref b), some (.ref m), some (.ref o), some (.int (nI i)), none, none] [] := by
  obtain ⟨⟨F, fp, fb, h8⟩, ⟨x0, nb0, h5⟩, ⟨fD, σD, hD⟩, ⟨fh, fo, h9⟩, hO⟩ := id hsh
  refine qw_aload_n 1 dL_law_1715 rfl rfl ?_
  refine qw_cvp [] (k_X8_checksum h8 hI.1) mL_188 dL_law_1716 h8.1 rfl rfl rfl (Nat.le_of_ble_eq_true rfl) (by omega) (by decide) rfl ?_
  refine qw_aload_n 2 dL_law_1719 rfl rfl ?_
  refine qw_cvl [] (k_X9_checksum h9 hI.hW) mL_192 dL_law_1720 h9.1 rfl rfl rfl (Nat.le_of_ble_eq_true rfl) (by omega) (by decide) rfl (fun x2 M2 h2 => ?_)
  obtain ⟨rfl, rfl⟩ := h2
  refine qw_lcmp dL_law_1723 ?_
  rw [hI.2.2.1, q_lc]
  refine qw_if_eq 1729 dL_law_1724 (by decide) (fun c1724 => ?_) (fun c1724 => absurd rfl c1724)
  exact qw_weak _ (by simp [lq_le]) (LW.room (by omega) (by omega) (kk _ _ _ _ _ _ _ _ hsh (hI.up hb 0)))
theorem c_makeGood {a b m o L i u kc ks : Nat} {xs : Nat → Int32} (hX : va_X a L xs (lq_u G) (lq_u G).heap) (hL : L ≤ 3072) (hNC : q_NC G) (hb : b + 1607 ≤ m) (hm : m + 273 ≤ o) (hi : i + 6 ≤ L) {H : Nat → Nat → Nat} {tk : Nat → Nat → Nat × Nat} {n : Nat → Nat} (hsh : q_sh9 S b m o) (hI : q_I b m u H tk n M) {Q : lq_P} (kk : ∀ (z1 : Nat) (S1 : lq_S) (M1 : lq_M) (N1 : lq_N) (u1 : Nat) (H1 : Nat → Nat → Nat) (tk1 : Nat → Nat → Nat × Nat) (n1 : Nat → Nat), q_sh9 S1 b m o → q_I b m u1 H1 tk1 n1 M1 → LW G YL_law 30 kc ks Q lq_no z1 S1 M1 N1 1729 [some (.ref a), some (.ref b), some (.ref m), some (.ref o), some (.int (nI i)), none, none] []) : LW G YL_law 30 (kc + 3) (ks + 18) Q lq_no z S M N 1541 [some (.ref a), some (.ref b), some (.ref m), some (.ref o), some (.int (nI i)), none, none] [] := by
  obtain ⟨⟨F, fp, fb, h8⟩, ⟨x0, nb0, h5⟩, ⟨fD, σD, hD⟩, ⟨fh, fo, h9⟩, hO⟩ := id hsh
  have hcx := hI.2.2.2.1 0 (Nat.zero_le u)
  have hW : g_wf (H 0) := by rw [hI.2.2.1]; exact hI.hW
  refine qw_aload_n 1 dL_law_1541 rfl rfl ?_
  refine qw_cvi [] (k_X8_makeGood h8 hI.1) mL_174 dL_law_1542 h8.1 rfl rfl rfl (Nat.le_of_ble_eq_true rfl) (by omega) (by decide) rfl (fun x1 M1 h1 => ?_)
  obtain ⟨rfl, hh1, hf1⟩ := h1
  have em : M1 m = M m := hf1 m (by omega)
  have ed : M1 (m + 2) = M (m + 2) := hf1 (m + 2) (by omega)
  have e2 : H 0 = M1 (m + 2) := by rw [ed]; exact hI.2.2.1
  have hWr : g_wf (M1 (m + 2)) := by rw [← e2]; exact hW
  have hr1 : q_hr M1 m u H := by obtain ⟨k1, k2, k3⟩ := hI.2.1; exact ⟨by rw [em]; exact k1, k2, fun j j1 j2 k hk => by rw [hf1 _ (by omega)]; exact k3 j j1 j2 k hk⟩
  refine qw_aload_n 2 dL_law_1545 rfl rfl ?_
  refine qw_cvi [] (k_X9_makeGood h9 hWr (u := u) (H := H) hr1 e2) mL_177 dL_law_1546 h9.1 rfl rfl rfl (Nat.le_of_ble_eq_true rfl) (by omega) (by decide) rfl (fun x2 M2 h2 => ?_)
  rw [← e2] at h2
  obtain ⟨rfl, hmu⟩ := h2
  refine qw_icmp_eq 1729 dL_law_1549 (by decide) (fun c1549 => ?_) (fun c1549 => absurd rfl c1549)
  exact qw_weak _ (by simp [lq_le]) (LW.room (by omega) (by omega) (kk _ _ _ _ _ _ _ _ hsh (hI.mut hb hh1 hf1 hmu (hcx.far (g_mkg_far hW) (fun q0 q1 => ⟨(hW.mgs (H 0 5) (Nat.le_refl _)).2.1.trans q0, (hW.mgs (H 0 5) (Nat.le_refl _)).2.2.1.trans q1⟩)))))
theorem c_undo {a b m o L i u kc ks : Nat} {xs : Nat → Int32} (hX : va_X a L xs (lq_u G) (lq_u G).heap) (hL : L ≤ 3072) (hNC : q_NC G) (hb : b + 1607 ≤ m) (hm : m + 273 ≤ o) (hi : i + 6 ≤ L) {H : Nat → Nat → Nat} {tk : Nat → Nat → Nat × Nat} {n : Nat → Nat} (hsh : q_sh9 S b m o) (hI : q_I b m u H tk n M) {Q : lq_P} (kk : ∀ (z1 : Nat) (S1 : lq_S) (M1 : lq_M) (N1 : lq_N) (u1 : Nat) (H1 : Nat → Nat → Nat) (tk1 : Nat → Nat → Nat × Nat) (n1 : Nat → Nat), q_sh9 S1 b m o → q_I b m u1 H1 tk1 n1 M1 → LW G YL_law 30 kc ks Q lq_no z1 S1 M1 N1 1729 [some (.ref a), some (.ref b), some (.ref m), some (.ref o), some (.int (nI i)), none, none] []) : LW G YL_law 30 (kc + 3) (ks + 18) Q lq_no z S M N 1702 [some (.ref a), some (.ref b), some (.ref m), some (.ref o), some (.int (nI i)), none, none] [] := by
  obtain ⟨⟨F, fp, fb, h8⟩, ⟨x0, nb0, h5⟩, ⟨fD, σD, hD⟩, ⟨fh, fo, h9⟩, hO⟩ := id hsh
  have hW : g_wf (H 0) := by rw [hI.2.2.1]; exact hI.hW
  refine qw_aload_n 1 dL_law_1702 rfl rfl ?_
  refine qw_cvi [] (k_X8_undo h8 hI.1) mL_184 dL_law_1703 h8.1 rfl rfl rfl (Nat.le_of_ble_eq_true rfl) (by omega) (by decide) rfl (fun x1 M1 h1 => ?_)
  rcases h1 with ⟨hu, rfl, rfl⟩ | ⟨hu, rfl, hh1, hf1⟩
  · refine qw_aload_n 2 dL_law_1706 rfl rfl ?_
    refine qw_cvi [] (k_X9_undo h9 hI.hW (u := u) (H := H) hI.2.1 hI.2.2.1) mL_187 dL_law_1707 h9.1 rfl rfl rfl (Nat.le_of_ble_eq_true rfl) (by omega) (by decide) rfl (fun x2 M2 h2 => ?_)
    obtain ⟨-, rfl, rfl⟩ := h2.resolve_right (fun q => by omega)
    refine qw_icmp_eq 1729 dL_law_1710 (by decide) (fun c1710 => ?_) (fun c1710 => absurd rfl c1710)
    exact qw_weak _ (by simp [lq_le]) (LW.room (by omega) (by omega) (kk _ _ _ _ _ _ _ _ hsh (hI.up hb 0)))
  · have em : M1 m = M m := hf1 m (by omega)
    have ed : M1 (m + 2) = M (m + 2) := hf1 (m + 2) (by omega)
    have e2 : H 0 = M1 (m + 2) := by rw [ed]; exact hI.2.2.1
    have hWr : g_wf (M1 (m + 2)) := by rw [← e2]; exact hW
    have hr1 : q_hr M1 m u H := by obtain ⟨k1, k2, k3⟩ := hI.2.1; exact ⟨by rw [em]; exact k1, k2, fun j j1 j2 k hk => by rw [hf1 _ (by omega)]; exact k3 j j1 j2 k hk⟩
    refine qw_aload_n 2 dL_law_1706 rfl rfl ?_
    refine qw_cvi [] (k_X9_undo h9 hWr (u := u) (H := H) hr1 e2) mL_187 dL_law_1707 h9.1 rfl rfl rfl (Nat.le_of_ble_eq_true rfl) (by omega) (by decide) rfl (fun x2 M2 h2 => ?_)
    obtain ⟨-, rfl, w1, w2, w3, w4⟩ := h2.resolve_left (fun q => by omega)
    refine qw_icmp_eq 1729 dL_law_1710 (by decide) (fun c1710 => ?_) (fun c1710 => absurd rfl c1710)
    exact qw_weak _ (by simp [lq_le]) (LW.room (by omega) (by omega) (kk _ _ _ _ _ _ _ _ hsh (hI.undo hb hu hh1 hf1 w1 w2 w4)))
theorem c_append {a b m o L i u kc ks : Nat} {xs : Nat → Int32} (hX : va_X a L xs (lq_u G) (lq_u G).heap) (hL : L ≤ 3072) (hNC : q_NC G) (hb : b + 1607 ≤ m) (hm : m + 273 ≤ o) (hi : i + 6 ≤ L) {H : Nat → Nat → Nat} {tk : Nat → Nat → Nat × Nat} {n : Nat → Nat} (hsh : q_sh9 S b m o) (hI : q_I b m u H tk n M) {Q : lq_P} (kk : ∀ (z1 : Nat) (S1 : lq_S) (M1 : lq_M) (N1 : lq_N) (u1 : Nat) (H1 : Nat → Nat → Nat) (tk1 : Nat → Nat → Nat × Nat) (n1 : Nat → Nat), q_sh9 S1 b m o → q_I b m u1 H1 tk1 n1 M1 → LW G YL_law 30 kc ks Q lq_no z1 S1 M1 N1 1729 [some (.ref a), some (.ref b), some (.ref m), some (.ref o), some (.int (nI i)), none, none] []) : LW G YL_law 30 (kc + 3) (ks + 18) Q lq_no z S M N 172 [some (.ref a), some (.ref b), some (.ref m), some (.ref o), some (.int (nI i)), none, none] [] := by
  obtain ⟨⟨F, fp, fb, h8⟩, ⟨x0, nb0, h5⟩, ⟨fD, σD, hD⟩, ⟨fh, fo, h9⟩, hO⟩ := id hsh
  have hf := hI.2.2.2.2.1
  have h80 := hI.2.2.2.2.2.1
  refine qw_aload_n 1 dL_law_172 rfl rfl ?_
  refine qw_aload_n 0 dL_law_173 rfl rfl ?_
  refine qw_iload dL_law_174 rfl ?_
  refine qw_iconst (nI 1) dL_law_176 (by decide) ?_
  refine qw_addN dL_law_177 ?_
  refine qw_xald hX dL_law_178 (by omega) (by omega) ?_
  refine qw_aload_n 0 dL_law_179 rfl rfl ?_
  refine qw_iload dL_law_180 rfl ?_
  refine qw_iconst (nI 2) dL_law_182 (by decide) ?_
  refine qw_addN dL_law_183 ?_
  refine qw_xald hX dL_law_184 (by omega) (by omega) ?_
  refine qw_aload_n 0 dL_law_185 rfl rfl ?_
  refine qw_iload dL_law_186 rfl ?_
  refine qw_iconst (nI 3) dL_law_188 (by decide) ?_
  refine qw_addN dL_law_189 ?_
  refine qw_xald hX dL_law_190 (by omega) (by omega) ?_
  refine qw_aload_n 0 dL_law_191 rfl rfl ?_
  refine qw_iload dL_law_192 rfl ?_
  refine qw_iconst (nI 4) dL_law_194 (by decide) ?_
  refine qw_addN dL_law_195 ?_
  refine qw_xald hX dL_law_196 (by omega) (by omega) ?_
  refine qw_aload_n 0 dL_law_197 rfl rfl ?_
  refine qw_iload dL_law_198 rfl ?_
  refine qw_iconst (nI 5) dL_law_200 (by decide) ?_
  refine qw_addN dL_law_201 ?_
  refine qw_xald hX dL_law_202 (by omega) (by omega) ?_
  refine qw_cvi [_, _, _, _, _] (k_X8_append h8 (by omega)) mL_86 dL_law_203 h8.1 rfl rfl rfl (Nat.le_of_ble_eq_true rfl) (by omega) (by decide) rfl (fun x1 M1 h1 => ?_)
  rcases h1 with ⟨h78, rfl, rfl⟩ | ⟨h78, rfl, rfl⟩
  · refine qw_aload_n 2 dL_law_206 rfl rfl ?_
    refine qw_aload_n 0 dL_law_207 rfl rfl ?_
    refine qw_iload dL_law_208 rfl ?_
    refine qw_iconst (nI 1) dL_law_210 (by decide) ?_
    refine qw_addN dL_law_211 ?_
    refine qw_xald hX dL_law_212 (by omega) (by omega) ?_
    refine qw_aload_n 0 dL_law_213 rfl rfl ?_
    refine qw_iload dL_law_214 rfl ?_
    refine qw_iconst (nI 2) dL_law_216 (by decide) ?_
    refine qw_addN dL_law_217 ?_
    refine qw_xald hX dL_law_218 (by omega) (by omega) ?_
    refine qw_aload_n 0 dL_law_219 rfl rfl ?_
    refine qw_iload dL_law_220 rfl ?_
    refine qw_iconst (nI 3) dL_law_222 (by decide) ?_
    refine qw_addN dL_law_223 ?_
    refine qw_xald hX dL_law_224 (by omega) (by omega) ?_
    refine qw_aload_n 0 dL_law_225 rfl rfl ?_
    refine qw_iload dL_law_226 rfl ?_
    refine qw_iconst (nI 4) dL_law_228 (by decide) ?_
    refine qw_addN dL_law_229 ?_
    refine qw_xald hX dL_law_230 (by omega) (by omega) ?_
    refine qw_aload_n 0 dL_law_231 rfl rfl ?_
    refine qw_iload dL_law_232 rfl ?_
    refine qw_iconst (nI 5) dL_law_234 (by decide) ?_
    refine qw_addN dL_law_235 ?_
    refine qw_xald hX dL_law_236 (by omega) (by omega) ?_
    refine qw_cvi [_, _, _, _, _] (k_X9_append h9 (by omega)) mL_90 dL_law_237 h9.1 rfl rfl rfl (Nat.le_of_ble_eq_true rfl) (by omega) (by decide) rfl (fun x2 M2 h2 => ?_)
    obtain ⟨-, rfl, rfl⟩ := h2.resolve_right (fun q => by omega)
    refine qw_icmp_eq 1729 dL_law_240 (by decide) (fun c240 => ?_) (fun c240 => absurd rfl c240)
    exact qw_weak _ (by simp [lq_le]) (LW.room (by omega) (by omega) (kk _ _ _ _ _ _ _ _ hsh (hI.up hb 0)))
  · have eqm : q_app M b (xs (i + 1)) (xs (i + 2)) (xs (i + 3)) (xs (i + 4)) (xs (i + 5)) m 2 = M m 2 := by rw [q_app_sp.2.2.1 m (by omega) (by omega)]
    refine qw_aload_n 2 dL_law_206 rfl rfl ?_
    refine qw_aload_n 0 dL_law_207 rfl rfl ?_
    refine qw_iload dL_law_208 rfl ?_
    refine qw_iconst (nI 1) dL_law_210 (by decide) ?_
    refine qw_addN dL_law_211 ?_
    refine qw_xald hX dL_law_212 (by omega) (by omega) ?_
    refine qw_aload_n 0 dL_law_213 rfl rfl ?_
    refine qw_iload dL_law_214 rfl ?_
    refine qw_iconst (nI 2) dL_law_216 (by decide) ?_
    refine qw_addN dL_law_217 ?_
    refine qw_xald hX dL_law_218 (by omega) (by omega) ?_
    refine qw_aload_n 0 dL_law_219 rfl rfl ?_
    refine qw_iload dL_law_220 rfl ?_
    refine qw_iconst (nI 3) dL_law_222 (by decide) ?_
    refine qw_addN dL_law_223 ?_
    refine qw_xald hX dL_law_224 (by omega) (by omega) ?_
    refine qw_aload_n 0 dL_law_225 rfl rfl ?_
    refine qw_iload dL_law_226 rfl ?_
    refine qw_iconst (nI 4) dL_law_228 (by decide) ?_
    refine qw_addN dL_law_229 ?_
    refine qw_xald hX dL_law_230 (by omega) (by omega) ?_
    refine qw_aload_n 0 dL_law_231 rfl rfl ?_
    refine qw_iload dL_law_232 rfl ?_
    refine qw_iconst (nI 5) dL_law_234 (by decide) ?_
    refine qw_addN dL_law_235 ?_
    refine qw_xald hX dL_law_236 (by omega) (by omega) ?_
    refine qw_cvi [_, _, _, _, _] (k_X9_append h9 (by rw [eqm]; omega)) mL_90 dL_law_237 h9.1 rfl rfl rfl (Nat.le_of_ble_eq_true rfl) (by omega) (by decide) rfl (fun x2 M2 h2 => ?_)
    rw [eqm] at h2
    obtain ⟨-, rfl, w0, w1, w2, w3, w4⟩ := h2.resolve_left (fun q => by omega)
    rw [← eqm] at w1 w4
    refine qw_icmp_eq 1729 dL_law_240 (by decide) (fun c240 => ?_) (fun c240 => absurd (by rw [hf]) c240)
    exact qw_weak _ (by simp [lq_le]) (LW.room (by omega) (by omega) (kk _ _ _ _ _ _ _ _ hsh (hI.app hb (by omega) w1 w2 w3 w4)))
end LO
