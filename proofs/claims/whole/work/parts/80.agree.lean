/-! THE LAW: where both answer, they answer alike -/
theorem nI_j {x : Int32} {a b : Nat} (h1 : x = nI a) (h2 : x = nI b) (ha : a < 2 ^ 31) (hb : b < 2 ^ 31) : a = b := (nI_eq ha hb).mp (h1.symm.trans h2)
theorem q_lc (x : Int64) : lg_cmp x x = 0 := by unfold lg_cmp; rw [if_neg (by simp), if_pos rfl]
theorem LW.room {G : lq_G} {Y : lq_Y} {d kc ks kc1 ks1 z : Nat} {S : lq_S} {M : lq_M} {N : lq_N} {Q : lq_P} {X : lq_E} {pc : Nat} {lv : List (Option Value)} {st : List Value} (h1 : kc ≤ kc1) (h2 : ks ≤ ks1) (h : LW G Y d kc ks Q X z S M N pc lv st) : LW G Y d kc1 ks1 Q X z S M N pc lv st := by
  intro p e R s m args below meth c H locs cells slots ls C
  exact h p e R s m args below meth c H locs cells slots ls ⟨C.1, C.2.1, C.2.2.1, C.2.2.2.1, ⟨by have := C.2.2.2.2.1.1; omega, by have := C.2.2.2.2.1.2.1; omega, C.2.2.2.2.1.2.2⟩, C.2.2.2.2.2⟩
theorem q_p8 {n : Nat} (h : n ≤ 8) : 2 ^ n ≤ 256 := Nat.pow_le_pow_right (by decide) h
theorem q_pcn8 (k : Nat) : q_pc k ≤ 8 := by
  unfold q_pc
  have h : ∀ t, q_sm (fun t => k / 2 ^ t % 2) t ≤ t := by
    intro t
    induction t with
    | zero => exact Nat.le_refl 0
    | succ t ih =>
      rw [q_sm]
      have := Nat.mod_lt (k / 2 ^ t) (show 0 < 2 by decide)
      omega
  exact h 8
theorem ag_breakOf {g : Nat → Nat} (hW : g_wf g) {i w : Int32} {x1 x2 : Int32} (h1 : ∃ k v, k < g 0 ∧ v ≤ 6 ∧ i = nI k ∧ w = nI v ∧ x1 = nI (if v = 6 then g_us g k else g (7 + v + 30 * k))) (h2 : ∃ k v, k < g 0 ∧ v ≤ 6 ∧ i = nI k ∧ w = nI v ∧ x2 = nI (if v = 6 then g_us g k else g (7 + v + 30 * k))) : x2 = x1 := by
  have h20 := hW.nb
  have h8 := hW.ns
  have h160 := hW.no
  have hp8 := q_p8 h8
  obtain ⟨k1, v1, b1k0, b1v0, e1k, e1v, hx1⟩ := h1
  obtain ⟨k2, v2, b2k0, b2v0, e2k, e2v, hx2⟩ := h2
  obtain rfl := nI_j e1k e2k (by omega) (by omega)
  obtain rfl := nI_j e1v e2v (by omega) (by omega)
  rw [hx1, hx2]
theorem an_breakOf {g : Nat → Nat} (hW : g_wf g) {i w : Int32} {x1 : Int32} (h1 : ∃ k v, k < g 0 ∧ v ≤ 6 ∧ i = nI k ∧ w = nI v ∧ x1 = nI (if v = 6 then g_us g k else g (7 + v + 30 * k))) {e : Nat} (h2 : (e = 1 ∧ ¬ q_ix i (g 0)) ∨ (e = 2 ∧ q_ix i (g 0) ∧ ¬ q_rg w 0 6)) : False := by
  have h20 := hW.nb
  have h8 := hW.ns
  have h160 := hW.no
  have hp8 := q_p8 h8
  obtain ⟨k1, v1, b1k0, b1v0, e1k, e1v, hx1⟩ := h1
  rcases h2 with ⟨-, h2⟩ | ⟨-, h2⟩
  · exact h2 ⟨k1, b1k0, e1k⟩
  · exact h2.2 ⟨v1, Nat.zero_le _, b1v0, e1v⟩
theorem ap_breakOf {g : Nat → Nat} (hW : g_wf g) {i w : Int32} {x1 : Int32} (h1 : ∃ k v, k < g 0 ∧ v ≤ 6 ∧ i = nI k ∧ w = nI v ∧ x1 = nI (if v = 6 then g_us g k else g (7 + v + 30 * k))) {E : String} (h2 : (E = eIO ∧ ¬ q_ix i (g 0)) ∨ (E = eIA ∧ q_ix i (g 0) ∧ ¬ q_rg w 0 6)) : False := by
  refine an_breakOf hW h1 (e := q_cod [eIO, eIA] E) ?_
  exact h2.imp (fun h => ⟨by rw [h.1]; decide +kernel, h.2⟩) (fun h => ⟨by rw [h.1]; decide +kernel, h.2⟩)
theorem ae_breakOf {g : Nat → Nat} (hW : g_wf g) {i w : Int32} {E : String} (h1 : (E = eIO ∧ ¬ q_ix i (g 0)) ∨ (E = eIA ∧ q_ix i (g 0) ∧ ¬ q_rg w 0 6)) {e : Nat} (h2 : (e = 1 ∧ ¬ q_ix i (g 0)) ∨ (e = 2 ∧ q_ix i (g 0) ∧ ¬ q_rg w 0 6)) : e = q_cod [eIO, eIA] E ∧ ¬ nI e = 0 := by
  have h20 := hW.nb
  have h8 := hW.ns
  have h160 := hW.no
  have hp8 := q_p8 h8
  rcases h1 with ⟨rfl, h1⟩ | ⟨rfl, h1⟩ <;> rcases h2 with ⟨rfl, h2⟩ | ⟨rfl, h2⟩
  · exact ⟨by decide +kernel, by decide⟩
  · exact (h1 h2.1).elim
  · exact (h2 h1.1).elim
  · exact ⟨by decide +kernel, by decide⟩
theorem ag_spot {g : Nat → Nat} (hW : g_wf g) {i p w : Int32} {x1 x2 : Int32} (h1 : ∃ k q v, k < g 0 ∧ q < g (12 + 30 * k) ∧ v ≤ 2 ∧ i = nI k ∧ p = nI q ∧ w = nI v ∧ x1 = nI (g (13 + v + 30 * k + 3 * q))) (h2 : ∃ k q v, k < g 0 ∧ q < g (12 + 30 * k) ∧ v ≤ 2 ∧ i = nI k ∧ p = nI q ∧ w = nI v ∧ x2 = nI (g (13 + v + 30 * k + 3 * q))) : x2 = x1 := by
  have h20 := hW.nb
  have h8 := hW.ns
  have h160 := hW.no
  have hp8 := q_p8 h8
  obtain ⟨k1, q1, v1, b1k0, b1q0, b1v0, e1k, e1q, e1v, hx1⟩ := h1
  obtain ⟨k2, q2, v2, b2k0, b2q0, b2v0, e2k, e2q, e2v, hx2⟩ := h2
  obtain rfl := nI_j e1k e2k (by omega) (by omega)
  have hb1 := (hW.br b1k0).2.2.2.2.2.1
  have hb2 := (hW.br b2k0).2.2.2.2.2.1
  obtain rfl := nI_j e1q e2q (by omega) (by omega)
  obtain rfl := nI_j e1v e2v (by omega) (by omega)
  rw [hx1, hx2]
theorem an_spot {g : Nat → Nat} (hW : g_wf g) {i p w : Int32} {x1 : Int32} (h1 : ∃ k q v, k < g 0 ∧ q < g (12 + 30 * k) ∧ v ≤ 2 ∧ i = nI k ∧ p = nI q ∧ w = nI v ∧ x1 = nI (g (13 + v + 30 * k + 3 * q))) {e : Nat} (h2 : (e = 1 ∧ ¬ q_ix i (g 0)) ∨ (e = 2 ∧ ∃ k, k < g 0 ∧ i = nI k ∧ ¬ q_ix p (g (12 + 30 * k))) ∨ (e = 3 ∧ ∃ k, k < g 0 ∧ i = nI k ∧ q_ix p (g (12 + 30 * k)) ∧ ¬ q_rg w 0 2)) : False := by
  have h20 := hW.nb
  have h8 := hW.ns
  have h160 := hW.no
  have hp8 := q_p8 h8
  obtain ⟨k1, q1, v1, b1k0, b1q0, b1v0, e1k, e1q, e1v, hx1⟩ := h1
  rcases h2 with ⟨-, h2⟩ | ⟨-, h2⟩ | ⟨-, h2⟩
  · exact h2 ⟨k1, b1k0, e1k⟩
  · obtain ⟨k9, c1, c2, c3⟩ := h2
    obtain rfl := nI_j e1k c2 (by omega) (by omega)
    exact c3 ⟨q1, b1q0, e1q⟩
  · obtain ⟨k9, c1, c2, c3⟩ := h2
    obtain rfl := nI_j e1k c2 (by omega) (by omega)
    exact c3.2 ⟨v1, Nat.zero_le _, b1v0, e1v⟩
theorem ap_spot {g : Nat → Nat} (hW : g_wf g) {i p w : Int32} {x1 : Int32} (h1 : ∃ k q v, k < g 0 ∧ q < g (12 + 30 * k) ∧ v ≤ 2 ∧ i = nI k ∧ p = nI q ∧ w = nI v ∧ x1 = nI (g (13 + v + 30 * k + 3 * q))) {E : String} (h2 : (E = eIO ∧ ¬ q_ix i (g 0)) ∨ (E = eNS ∧ ∃ k, k < g 0 ∧ i = nI k ∧ ¬ q_ix p (g (12 + 30 * k))) ∨ (E = eIA ∧ ∃ k, k < g 0 ∧ i = nI k ∧ q_ix p (g (12 + 30 * k)) ∧ ¬ q_rg w 0 2)) : False := by
  refine an_spot hW h1 (e := q_cod [eIO, eNS, eIA] E) ?_
  exact h2.imp (fun h => ⟨by rw [h.1]; decide +kernel, h.2⟩) (Or.imp (fun h => ⟨by rw [h.1]; decide +kernel, h.2⟩) (fun h => ⟨by rw [h.1]; decide +kernel, h.2⟩))
theorem ae_spot {g : Nat → Nat} (hW : g_wf g) {i p w : Int32} {E : String} (h1 : (E = eIO ∧ ¬ q_ix i (g 0)) ∨ (E = eNS ∧ ∃ k, k < g 0 ∧ i = nI k ∧ ¬ q_ix p (g (12 + 30 * k))) ∨ (E = eIA ∧ ∃ k, k < g 0 ∧ i = nI k ∧ q_ix p (g (12 + 30 * k)) ∧ ¬ q_rg w 0 2)) {e : Nat} (h2 : (e = 1 ∧ ¬ q_ix i (g 0)) ∨ (e = 2 ∧ ∃ k, k < g 0 ∧ i = nI k ∧ ¬ q_ix p (g (12 + 30 * k))) ∨ (e = 3 ∧ ∃ k, k < g 0 ∧ i = nI k ∧ q_ix p (g (12 + 30 * k)) ∧ ¬ q_rg w 0 2)) : e = q_cod [eIO, eNS, eIA] E ∧ ¬ nI e = 0 := by
  have h20 := hW.nb
  have h8 := hW.ns
  have h160 := hW.no
  have hp8 := q_p8 h8
  rcases h1 with ⟨rfl, h1⟩ | ⟨rfl, h1⟩ | ⟨rfl, h1⟩ <;> rcases h2 with ⟨rfl, h2⟩ | ⟨rfl, h2⟩ | ⟨rfl, h2⟩
  · exact ⟨by decide +kernel, by decide⟩
  · obtain ⟨k9, c1, c2, -⟩ := h2
    exact (h1 ⟨k9, c1, c2⟩).elim
  · obtain ⟨k9, c1, c2, -⟩ := h2
    exact (h1 ⟨k9, c1, c2⟩).elim
  · obtain ⟨k9, c1, c2, -⟩ := h1
    exact (h2 ⟨k9, c1, c2⟩).elim
  · exact ⟨by decide +kernel, by decide⟩
  · obtain ⟨k9, c1, c2, c3⟩ := h1
    obtain ⟨k8, d1, d2, d3⟩ := h2
    obtain rfl := nI_j c2 d2 (by omega) (by omega)
    exact (c3 d3.1).elim
  · obtain ⟨k9, c1, c2, -⟩ := h1
    exact (h2 ⟨k9, c1, c2⟩).elim
  · obtain ⟨k9, c1, c2, c3⟩ := h2
    obtain ⟨k8, d1, d2, d3⟩ := h1
    obtain rfl := nI_j c2 d2 (by omega) (by omega)
    exact (c3 d3.1).elim
  · exact ⟨by decide +kernel, by decide⟩
theorem ag_sponsor {g : Nat → Nat} (hW : g_wf g) {s w : Int32} {x1 x2 : Int32} (h1 : ∃ k v, k < g 1 ∧ v ≤ 4 ∧ s = nI k ∧ w = nI v ∧ x1 = nI (g_spo g k v)) (h2 : ∃ k v, k < g 1 ∧ v ≤ 4 ∧ s = nI k ∧ w = nI v ∧ x2 = nI (g_spo g k v)) : x2 = x1 := by
  have h20 := hW.nb
  have h8 := hW.ns
  have h160 := hW.no
  have hp8 := q_p8 h8
  obtain ⟨k1, v1, b1k0, b1v0, e1k, e1v, hx1⟩ := h1
  obtain ⟨k2, v2, b2k0, b2v0, e2k, e2v, hx2⟩ := h2
  obtain rfl := nI_j e1k e2k (by omega) (by omega)
  obtain rfl := nI_j e1v e2v (by omega) (by omega)
  rw [hx1, hx2]
theorem an_sponsor {g : Nat → Nat} (hW : g_wf g) {s w : Int32} {x1 : Int32} (h1 : ∃ k v, k < g 1 ∧ v ≤ 4 ∧ s = nI k ∧ w = nI v ∧ x1 = nI (g_spo g k v)) {e : Nat} (h2 : (e = 1 ∧ ¬ q_ix s (g 1)) ∨ (e = 2 ∧ q_ix s (g 1) ∧ ¬ q_rg w 0 4)) : False := by
  have h20 := hW.nb
  have h8 := hW.ns
  have h160 := hW.no
  have hp8 := q_p8 h8
  obtain ⟨k1, v1, b1k0, b1v0, e1k, e1v, hx1⟩ := h1
  rcases h2 with ⟨-, h2⟩ | ⟨-, h2⟩
  · exact h2 ⟨k1, b1k0, e1k⟩
  · exact h2.2 ⟨v1, Nat.zero_le _, b1v0, e1v⟩
theorem ap_sponsor {g : Nat → Nat} (hW : g_wf g) {s w : Int32} {x1 : Int32} (h1 : ∃ k v, k < g 1 ∧ v ≤ 4 ∧ s = nI k ∧ w = nI v ∧ x1 = nI (g_spo g k v)) {E : String} (h2 : (E = eIO ∧ ¬ q_ix s (g 1)) ∨ (E = eIA ∧ q_ix s (g 1) ∧ ¬ q_rg w 0 4)) : False := by
  refine an_sponsor hW h1 (e := q_cod [eIO, eIA] E) ?_
  exact h2.imp (fun h => ⟨by rw [h.1]; decide +kernel, h.2⟩) (fun h => ⟨by rw [h.1]; decide +kernel, h.2⟩)
theorem ae_sponsor {g : Nat → Nat} (hW : g_wf g) {s w : Int32} {E : String} (h1 : (E = eIO ∧ ¬ q_ix s (g 1)) ∨ (E = eIA ∧ q_ix s (g 1) ∧ ¬ q_rg w 0 4)) {e : Nat} (h2 : (e = 1 ∧ ¬ q_ix s (g 1)) ∨ (e = 2 ∧ q_ix s (g 1) ∧ ¬ q_rg w 0 4)) : e = q_cod [eIO, eIA] E ∧ ¬ nI e = 0 := by
  have h20 := hW.nb
  have h8 := hW.ns
  have h160 := hW.no
  have hp8 := q_p8 h8
  rcases h1 with ⟨rfl, h1⟩ | ⟨rfl, h1⟩ <;> rcases h2 with ⟨rfl, h2⟩ | ⟨rfl, h2⟩
  · exact ⟨by decide +kernel, by decide⟩
  · exact (h1 h2.1).elim
  · exact (h2 h1.1).elim
  · exact ⟨by decide +kernel, by decide⟩
theorem ag_isBanned {g : Nat → Nat} (hW : g_wf g) {i w : Int32} {x1 x2 : Int32} (h1 : ∃ k v, k ≤ 9 ∧ v ≤ 9 ∧ i = nI k ∧ w = nI v ∧ x1 = nI (g (623 + 10 * k + v))) (h2 : ∃ k v, k ≤ 9 ∧ v ≤ 9 ∧ i = nI k ∧ w = nI v ∧ x2 = nI (g (623 + 10 * k + v))) : x2 = x1 := by
  have h20 := hW.nb
  have h8 := hW.ns
  have h160 := hW.no
  have hp8 := q_p8 h8
  obtain ⟨k1, v1, b1k0, b1v0, e1k, e1v, hx1⟩ := h1
  obtain ⟨k2, v2, b2k0, b2v0, e2k, e2v, hx2⟩ := h2
  obtain rfl := nI_j e1k e2k (by omega) (by omega)
  obtain rfl := nI_j e1v e2v (by omega) (by omega)
  rw [hx1, hx2]
theorem an_isBanned {g : Nat → Nat} (hW : g_wf g) {i w : Int32} {x1 : Int32} (h1 : ∃ k v, k ≤ 9 ∧ v ≤ 9 ∧ i = nI k ∧ w = nI v ∧ x1 = nI (g (623 + 10 * k + v))) {e : Nat} (h2 : e = 1 ∧ ¬ (q_rg i 0 9 ∧ q_rg w 0 9)) : False := by
  have h20 := hW.nb
  have h8 := hW.ns
  have h160 := hW.no
  have hp8 := q_p8 h8
  obtain ⟨k1, v1, b1k0, b1v0, e1k, e1v, hx1⟩ := h1
  exact h2.2 ⟨⟨k1, Nat.zero_le _, b1k0, e1k⟩, ⟨v1, Nat.zero_le _, b1v0, e1v⟩⟩
theorem ap_isBanned {g : Nat → Nat} (hW : g_wf g) {i w : Int32} {x1 : Int32} (h1 : ∃ k v, k ≤ 9 ∧ v ≤ 9 ∧ i = nI k ∧ w = nI v ∧ x1 = nI (g (623 + 10 * k + v))) {E : String} (h2 : E = eIA ∧ ¬ (q_rg i 0 9 ∧ q_rg w 0 9)) : False := by
  refine an_isBanned hW h1 (e := q_cod [eIA] E) ?_
  exact ⟨by rw [h2.1]; decide +kernel, h2.2⟩
theorem ae_isBanned {g : Nat → Nat} (hW : g_wf g) {i w : Int32} {E : String} (h1 : E = eIA ∧ ¬ (q_rg i 0 9 ∧ q_rg w 0 9)) {e : Nat} (h2 : e = 1 ∧ ¬ (q_rg i 0 9 ∧ q_rg w 0 9)) : e = q_cod [eIA] E ∧ ¬ nI e = 0 := by
  have h20 := hW.nb
  have h8 := hW.ns
  have h160 := hW.no
  have hp8 := q_p8 h8
  exact ⟨by rw [h1.1, h2.1]; decide +kernel, by rw [h2.1]; decide⟩
theorem ag_spotsOn {g : Nat → Nat} (hW : g_wf g) {s w : Int32} {x1 x2 : Int32} (h1 : ∃ k v, k < g 1 ∧ v ≤ 6 ∧ s = nI k ∧ w = nI v ∧ x1 = nI (g_sd g k v)) (h2 : ∃ k v, k < g 1 ∧ v ≤ 6 ∧ s = nI k ∧ w = nI v ∧ x2 = nI (g_sd g k v)) : x2 = x1 := by
  have h20 := hW.nb
  have h8 := hW.ns
  have h160 := hW.no
  have hp8 := q_p8 h8
  obtain ⟨k1, v1, b1k0, b1v0, e1k, e1v, hx1⟩ := h1
  obtain ⟨k2, v2, b2k0, b2v0, e2k, e2v, hx2⟩ := h2
  obtain rfl := nI_j e1k e2k (by omega) (by omega)
  obtain rfl := nI_j e1v e2v (by omega) (by omega)
  rw [hx1, hx2]
theorem an_spotsOn {g : Nat → Nat} (hW : g_wf g) {s w : Int32} {x1 : Int32} (h1 : ∃ k v, k < g 1 ∧ v ≤ 6 ∧ s = nI k ∧ w = nI v ∧ x1 = nI (g_sd g k v)) {e : Nat} (h2 : (e = 1 ∧ ¬ q_ix s (g 1)) ∨ (e = 2 ∧ q_ix s (g 1) ∧ ¬ q_rg w 0 6)) : False := by
  have h20 := hW.nb
  have h8 := hW.ns
  have h160 := hW.no
  have hp8 := q_p8 h8
  obtain ⟨k1, v1, b1k0, b1v0, e1k, e1v, hx1⟩ := h1
  rcases h2 with ⟨-, h2⟩ | ⟨-, h2⟩
  · exact h2 ⟨k1, b1k0, e1k⟩
  · exact h2.2 ⟨v1, Nat.zero_le _, b1v0, e1v⟩
theorem ap_spotsOn {g : Nat → Nat} (hW : g_wf g) {s w : Int32} {x1 : Int32} (h1 : ∃ k v, k < g 1 ∧ v ≤ 6 ∧ s = nI k ∧ w = nI v ∧ x1 = nI (g_sd g k v)) {E : String} (h2 : (E = eIO ∧ ¬ q_ix s (g 1)) ∨ (E = eIA ∧ q_ix s (g 1) ∧ ¬ q_rg w 0 6)) : False := by
  refine an_spotsOn hW h1 (e := q_cod [eIO, eIA] E) ?_
  exact h2.imp (fun h => ⟨by rw [h.1]; decide +kernel, h.2⟩) (fun h => ⟨by rw [h.1]; decide +kernel, h.2⟩)
theorem ae_spotsOn {g : Nat → Nat} (hW : g_wf g) {s w : Int32} {E : String} (h1 : (E = eIO ∧ ¬ q_ix s (g 1)) ∨ (E = eIA ∧ q_ix s (g 1) ∧ ¬ q_rg w 0 6)) {e : Nat} (h2 : (e = 1 ∧ ¬ q_ix s (g 1)) ∨ (e = 2 ∧ q_ix s (g 1) ∧ ¬ q_rg w 0 6)) : e = q_cod [eIO, eIA] E ∧ ¬ nI e = 0 := by
  have h20 := hW.nb
  have h8 := hW.ns
  have h160 := hW.no
  have hp8 := q_p8 h8
  rcases h1 with ⟨rfl, h1⟩ | ⟨rfl, h1⟩ <;> rcases h2 with ⟨rfl, h2⟩ | ⟨rfl, h2⟩
  · exact ⟨by decide +kernel, by decide⟩
  · exact (h1 h2.1).elim
  · exact (h2 h1.1).elim
  · exact ⟨by decide +kernel, by decide⟩
theorem ag_reason {g : Nat → Nat} (hW : g_wf g) {s l i : Int32} {x1 x2 : Int32} (h1 : ∃ ks kl ki, ks < g 1 ∧ 5 ≤ kl ∧ kl ≤ 60 ∧ ki < g 0 ∧ s = nI ks ∧ l = nI kl ∧ i = nI ki ∧ x1 = nI (g_rs g ks kl ki)) (h2 : ∃ ks kl ki, ks < g 1 ∧ 5 ≤ kl ∧ kl ≤ 60 ∧ ki < g 0 ∧ s = nI ks ∧ l = nI kl ∧ i = nI ki ∧ x2 = nI (g_rs g ks kl ki)) : x2 = x1 := by
  have h20 := hW.nb
  have h8 := hW.ns
  have h160 := hW.no
  have hp8 := q_p8 h8
  obtain ⟨ks1, kl1, ki1, b1ks0, b1kl0, b1kl1, b1ki0, e1ks, e1kl, e1ki, hx1⟩ := h1
  obtain ⟨ks2, kl2, ki2, b2ks0, b2kl0, b2kl1, b2ki0, e2ks, e2kl, e2ki, hx2⟩ := h2
  obtain rfl := nI_j e1ks e2ks (by omega) (by omega)
  obtain rfl := nI_j e1kl e2kl (by omega) (by omega)
  obtain rfl := nI_j e1ki e2ki (by omega) (by omega)
  rw [hx1, hx2]
theorem an_reason {g : Nat → Nat} (hW : g_wf g) {s l i : Int32} {x1 : Int32} (h1 : ∃ ks kl ki, ks < g 1 ∧ 5 ≤ kl ∧ kl ≤ 60 ∧ ki < g 0 ∧ s = nI ks ∧ l = nI kl ∧ i = nI ki ∧ x1 = nI (g_rs g ks kl ki)) {e : Nat} (h2 : (e = 1 ∧ ¬ (q_ix s (g 1) ∧ q_ix i (g 0))) ∨ (e = 2 ∧ q_ix s (g 1) ∧ q_ix i (g 0) ∧ ¬ q_rg l 5 60)) : False := by
  have h20 := hW.nb
  have h8 := hW.ns
  have h160 := hW.no
  have hp8 := q_p8 h8
  obtain ⟨ks1, kl1, ki1, b1ks0, b1kl0, b1kl1, b1ki0, e1ks, e1kl, e1ki, hx1⟩ := h1
  rcases h2 with ⟨-, h2⟩ | ⟨-, h2⟩
  · exact h2 ⟨⟨ks1, b1ks0, e1ks⟩, ⟨ki1, b1ki0, e1ki⟩⟩
  · exact h2.2.2 ⟨kl1, b1kl0, b1kl1, e1kl⟩
theorem ap_reason {g : Nat → Nat} (hW : g_wf g) {s l i : Int32} {x1 : Int32} (h1 : ∃ ks kl ki, ks < g 1 ∧ 5 ≤ kl ∧ kl ≤ 60 ∧ ki < g 0 ∧ s = nI ks ∧ l = nI kl ∧ i = nI ki ∧ x1 = nI (g_rs g ks kl ki)) {E : String} (h2 : (E = eIO ∧ ¬ (q_ix s (g 1) ∧ q_ix i (g 0))) ∨ (E = eIA ∧ q_ix s (g 1) ∧ q_ix i (g 0) ∧ ¬ q_rg l 5 60)) : False := by
  refine an_reason hW h1 (e := q_cod [eIO, eIA] E) ?_
  exact h2.imp (fun h => ⟨by rw [h.1]; decide +kernel, h.2⟩) (fun h => ⟨by rw [h.1]; decide +kernel, h.2⟩)
theorem ae_reason {g : Nat → Nat} (hW : g_wf g) {s l i : Int32} {E : String} (h1 : (E = eIO ∧ ¬ (q_ix s (g 1) ∧ q_ix i (g 0))) ∨ (E = eIA ∧ q_ix s (g 1) ∧ q_ix i (g 0) ∧ ¬ q_rg l 5 60)) {e : Nat} (h2 : (e = 1 ∧ ¬ (q_ix s (g 1) ∧ q_ix i (g 0))) ∨ (e = 2 ∧ q_ix s (g 1) ∧ q_ix i (g 0) ∧ ¬ q_rg l 5 60)) : e = q_cod [eIO, eIA] E ∧ ¬ nI e = 0 := by
  have h20 := hW.nb
  have h8 := hW.ns
  have h160 := hW.no
  have hp8 := q_p8 h8
  rcases h1 with ⟨rfl, h1⟩ | ⟨rfl, h1⟩ <;> rcases h2 with ⟨rfl, h2⟩ | ⟨rfl, h2⟩
  · exact ⟨by decide +kernel, by decide⟩
  · exact (h1 ⟨h2.1, h2.2.1⟩).elim
  · exact (h2 ⟨h1.1, h1.2.1⟩).elim
  · exact ⟨by decide +kernel, by decide⟩
theorem ag_widest {g : Nat → Nat} (hW : g_wf g) {s w : Int32} {x1 x2 : Int32} (h1 : ∃ k v, k < g 1 ∧ 5 ≤ v ∧ v ≤ 60 ∧ s = nI k ∧ w = nI v ∧ x1 = q_m1 (g_wip g k v (g 0))) (h2 : ∃ k v, k < g 1 ∧ 5 ≤ v ∧ v ≤ 60 ∧ s = nI k ∧ w = nI v ∧ x2 = q_m1 (g_wip g k v (g 0))) : x2 = x1 := by
  have h20 := hW.nb
  have h8 := hW.ns
  have h160 := hW.no
  have hp8 := q_p8 h8
  obtain ⟨k1, v1, b1k0, b1v0, b1v1, e1k, e1v, hx1⟩ := h1
  obtain ⟨k2, v2, b2k0, b2v0, b2v1, e2k, e2v, hx2⟩ := h2
  obtain rfl := nI_j e1k e2k (by omega) (by omega)
  obtain rfl := nI_j e1v e2v (by omega) (by omega)
  rw [hx1, hx2]
theorem an_widest {g : Nat → Nat} (hW : g_wf g) {s w : Int32} {x1 : Int32} (h1 : ∃ k v, k < g 1 ∧ 5 ≤ v ∧ v ≤ 60 ∧ s = nI k ∧ w = nI v ∧ x1 = q_m1 (g_wip g k v (g 0))) {e : Nat} (h2 : (e = 1 ∧ ¬ q_ix s (g 1)) ∨ (e = 2 ∧ q_ix s (g 1) ∧ ¬ q_rg w 5 60)) : False := by
  have h20 := hW.nb
  have h8 := hW.ns
  have h160 := hW.no
  have hp8 := q_p8 h8
  obtain ⟨k1, v1, b1k0, b1v0, b1v1, e1k, e1v, hx1⟩ := h1
  rcases h2 with ⟨-, h2⟩ | ⟨-, h2⟩
  · exact h2 ⟨k1, b1k0, e1k⟩
  · exact h2.2 ⟨v1, b1v0, b1v1, e1v⟩
theorem ap_widest {g : Nat → Nat} (hW : g_wf g) {s w : Int32} {x1 : Int32} (h1 : ∃ k v, k < g 1 ∧ 5 ≤ v ∧ v ≤ 60 ∧ s = nI k ∧ w = nI v ∧ x1 = q_m1 (g_wip g k v (g 0))) {E : String} (h2 : (E = eIO ∧ ¬ q_ix s (g 1)) ∨ (E = eIA ∧ q_ix s (g 1) ∧ ¬ q_rg w 5 60)) : False := by
  refine an_widest hW h1 (e := q_cod [eIO, eIA] E) ?_
  exact h2.imp (fun h => ⟨by rw [h.1]; decide +kernel, h.2⟩) (fun h => ⟨by rw [h.1]; decide +kernel, h.2⟩)
theorem ae_widest {g : Nat → Nat} (hW : g_wf g) {s w : Int32} {E : String} (h1 : (E = eIO ∧ ¬ q_ix s (g 1)) ∨ (E = eIA ∧ q_ix s (g 1) ∧ ¬ q_rg w 5 60)) {e : Nat} (h2 : (e = 1 ∧ ¬ q_ix s (g 1)) ∨ (e = 2 ∧ q_ix s (g 1) ∧ ¬ q_rg w 5 60)) : e = q_cod [eIO, eIA] E ∧ ¬ nI e = 0 := by
  have h20 := hW.nb
  have h8 := hW.ns
  have h160 := hW.no
  have hp8 := q_p8 h8
  rcases h1 with ⟨rfl, h1⟩ | ⟨rfl, h1⟩ <;> rcases h2 with ⟨rfl, h2⟩ | ⟨rfl, h2⟩
  · exact ⟨by decide +kernel, by decide⟩
  · exact (h1 h2.1).elim
  · exact (h2 h1.1).elim
  · exact ⟨by decide +kernel, by decide⟩
theorem ag_owedSpot {g : Nat → Nat} (hW : g_wf g) {i w : Int32} {x1 x2 : Int32} (h1 : ∃ k v, k < g 5 ∧ v ≤ 3 ∧ i = nI k ∧ w = nI v ∧ x1 = nI (g (723 + v + 4 * k))) (h2 : ∃ k v, k < g 5 ∧ v ≤ 3 ∧ i = nI k ∧ w = nI v ∧ x2 = nI (g (723 + v + 4 * k))) : x2 = x1 := by
  have h20 := hW.nb
  have h8 := hW.ns
  have h160 := hW.no
  have hp8 := q_p8 h8
  obtain ⟨k1, v1, b1k0, b1v0, e1k, e1v, hx1⟩ := h1
  obtain ⟨k2, v2, b2k0, b2v0, e2k, e2v, hx2⟩ := h2
  obtain rfl := nI_j e1k e2k (by omega) (by omega)
  obtain rfl := nI_j e1v e2v (by omega) (by omega)
  rw [hx1, hx2]
theorem an_owedSpot {g : Nat → Nat} (hW : g_wf g) {i w : Int32} {x1 : Int32} (h1 : ∃ k v, k < g 5 ∧ v ≤ 3 ∧ i = nI k ∧ w = nI v ∧ x1 = nI (g (723 + v + 4 * k))) {e : Nat} (h2 : (e = 1 ∧ ¬ q_ix i (g 5)) ∨ (e = 2 ∧ q_ix i (g 5) ∧ ¬ q_rg w 0 3)) : False := by
  have h20 := hW.nb
  have h8 := hW.ns
  have h160 := hW.no
  have hp8 := q_p8 h8
  obtain ⟨k1, v1, b1k0, b1v0, e1k, e1v, hx1⟩ := h1
  rcases h2 with ⟨-, h2⟩ | ⟨-, h2⟩
  · exact h2 ⟨k1, b1k0, e1k⟩
  · exact h2.2 ⟨v1, Nat.zero_le _, b1v0, e1v⟩
theorem ap_owedSpot {g : Nat → Nat} (hW : g_wf g) {i w : Int32} {x1 : Int32} (h1 : ∃ k v, k < g 5 ∧ v ≤ 3 ∧ i = nI k ∧ w = nI v ∧ x1 = nI (g (723 + v + 4 * k))) {E : String} (h2 : (E = eNS ∧ ¬ q_ix i (g 5)) ∨ (E = eIA ∧ q_ix i (g 5) ∧ ¬ q_rg w 0 3)) : False := by
  refine an_owedSpot hW h1 (e := q_cod [eNS, eIA] E) ?_
  exact h2.imp (fun h => ⟨by rw [h.1]; decide +kernel, h.2⟩) (fun h => ⟨by rw [h.1]; decide +kernel, h.2⟩)
theorem ae_owedSpot {g : Nat → Nat} (hW : g_wf g) {i w : Int32} {E : String} (h1 : (E = eNS ∧ ¬ q_ix i (g 5)) ∨ (E = eIA ∧ q_ix i (g 5) ∧ ¬ q_rg w 0 3)) {e : Nat} (h2 : (e = 1 ∧ ¬ q_ix i (g 5)) ∨ (e = 2 ∧ q_ix i (g 5) ∧ ¬ q_rg w 0 3)) : e = q_cod [eNS, eIA] E ∧ ¬ nI e = 0 := by
  have h20 := hW.nb
  have h8 := hW.ns
  have h160 := hW.no
  have hp8 := q_p8 h8
  rcases h1 with ⟨rfl, h1⟩ | ⟨rfl, h1⟩ <;> rcases h2 with ⟨rfl, h2⟩ | ⟨rfl, h2⟩
  · exact ⟨by decide +kernel, by decide⟩
  · exact (h1 h2.1).elim
  · exact (h2 h1.1).elim
  · exact ⟨by decide +kernel, by decide⟩
theorem ag_arrangements {g : Nat → Nat} (hW : g_wf g) {i : Int32} {x1 x2 : Int32} (h1 : ∃ k, k < 2 ^ g 1 ∧ i = nI k ∧ x1 = nI (g_co g k)) (h2 : ∃ k, k < 2 ^ g 1 ∧ i = nI k ∧ x2 = nI (g_co g k)) : x2 = x1 := by
  have h20 := hW.nb
  have h8 := hW.ns
  have h160 := hW.no
  have hp8 := q_p8 h8
  obtain ⟨k1, b1k0, e1k, hx1⟩ := h1
  obtain ⟨k2, b2k0, e2k, hx2⟩ := h2
  obtain rfl := nI_j e1k e2k (by omega) (by omega)
  rw [hx1, hx2]
theorem an_arrangements {g : Nat → Nat} (hW : g_wf g) {i : Int32} {x1 : Int32} (h1 : ∃ k, k < 2 ^ g 1 ∧ i = nI k ∧ x1 = nI (g_co g k)) {e : Nat} (h2 : e = 1 ∧ ¬ q_ix i (2 ^ g 1)) : False := by
  have h20 := hW.nb
  have h8 := hW.ns
  have h160 := hW.no
  have hp8 := q_p8 h8
  obtain ⟨k1, b1k0, e1k, hx1⟩ := h1
  exact h2.2 ⟨k1, b1k0, e1k⟩
theorem ap_arrangements {g : Nat → Nat} (hW : g_wf g) {i : Int32} {x1 : Int32} (h1 : ∃ k, k < 2 ^ g 1 ∧ i = nI k ∧ x1 = nI (g_co g k)) {E : String} (h2 : E = eIA ∧ ¬ q_ix i (2 ^ g 1)) : False := by
  refine an_arrangements hW h1 (e := q_cod [eIA] E) ?_
  exact ⟨by rw [h2.1]; decide +kernel, h2.2⟩
theorem ae_arrangements {g : Nat → Nat} (hW : g_wf g) {i : Int32} {E : String} (h1 : E = eIA ∧ ¬ q_ix i (2 ^ g 1)) {e : Nat} (h2 : e = 1 ∧ ¬ q_ix i (2 ^ g 1)) : e = q_cod [eIA] E ∧ ¬ nI e = 0 := by
  have h20 := hW.nb
  have h8 := hW.ns
  have h160 := hW.no
  have hp8 := q_p8 h8
  exact ⟨by rw [h1.1, h2.1]; decide +kernel, by rw [h2.1]; decide⟩
theorem ag_arranged {g : Nat → Nat} (hW : g_wf g) {i p : Int32} {x1 x2 : Int32} (h1 : ∃ k q, k < 2 ^ g 1 ∧ q < q_pc k ∧ i = nI k ∧ p = nI q ∧ x1 = if g_co g k = 0 then -1 else nI (g_fs g k (q + 1)).2) (h2 : ∃ k q, k < 2 ^ g 1 ∧ q < q_pc k ∧ i = nI k ∧ p = nI q ∧ x2 = if g_co g k = 0 then -1 else nI (g_fs g k (q + 1)).2) : x2 = x1 := by
  have h20 := hW.nb
  have h8 := hW.ns
  have h160 := hW.no
  have hp8 := q_p8 h8
  obtain ⟨k1, q1, b1k0, b1q0, e1k, e1q, hx1⟩ := h1
  obtain ⟨k2, q2, b2k0, b2q0, e2k, e2q, hx2⟩ := h2
  obtain rfl := nI_j e1k e2k (by omega) (by omega)
  have hb1 := q_pcn8 k1
  obtain rfl := nI_j e1q e2q (by omega) (by omega)
  rw [hx1, hx2]
theorem an_arranged {g : Nat → Nat} (hW : g_wf g) {i p : Int32} {x1 : Int32} (h1 : ∃ k q, k < 2 ^ g 1 ∧ q < q_pc k ∧ i = nI k ∧ p = nI q ∧ x1 = if g_co g k = 0 then -1 else nI (g_fs g k (q + 1)).2) {e : Nat} (h2 : (e = 1 ∧ ¬ q_ix i (2 ^ g 1)) ∨ (e = 2 ∧ ∃ k, k < 2 ^ g 1 ∧ i = nI k ∧ ¬ q_ix p (q_pc k))) : False := by
  have h20 := hW.nb
  have h8 := hW.ns
  have h160 := hW.no
  have hp8 := q_p8 h8
  obtain ⟨k1, q1, b1k0, b1q0, e1k, e1q, hx1⟩ := h1
  rcases h2 with ⟨-, h2⟩ | ⟨-, h2⟩
  · exact h2 ⟨k1, b1k0, e1k⟩
  · obtain ⟨k9, c1, c2, c3⟩ := h2
    obtain rfl := nI_j e1k c2 (by omega) (by omega)
    exact c3 ⟨q1, b1q0, e1q⟩
theorem ap_arranged {g : Nat → Nat} (hW : g_wf g) {i p : Int32} {x1 : Int32} (h1 : ∃ k q, k < 2 ^ g 1 ∧ q < q_pc k ∧ i = nI k ∧ p = nI q ∧ x1 = if g_co g k = 0 then -1 else nI (g_fs g k (q + 1)).2) {E : String} (h2 : (E = eIA ∧ ¬ q_ix i (2 ^ g 1)) ∨ (E = eIO ∧ ∃ k, k < 2 ^ g 1 ∧ i = nI k ∧ ¬ q_ix p (q_pc k))) : False := by
  refine an_arranged hW h1 (e := q_cod [eIA, eIO] E) ?_
  exact h2.imp (fun h => ⟨by rw [h.1]; decide +kernel, h.2⟩) (fun h => ⟨by rw [h.1]; decide +kernel, h.2⟩)
theorem ae_arranged {g : Nat → Nat} (hW : g_wf g) {i p : Int32} {E : String} (h1 : (E = eIA ∧ ¬ q_ix i (2 ^ g 1)) ∨ (E = eIO ∧ ∃ k, k < 2 ^ g 1 ∧ i = nI k ∧ ¬ q_ix p (q_pc k))) {e : Nat} (h2 : (e = 1 ∧ ¬ q_ix i (2 ^ g 1)) ∨ (e = 2 ∧ ∃ k, k < 2 ^ g 1 ∧ i = nI k ∧ ¬ q_ix p (q_pc k))) : e = q_cod [eIA, eIO] E ∧ ¬ nI e = 0 := by
  have h20 := hW.nb
  have h8 := hW.ns
  have h160 := hW.no
  have hp8 := q_p8 h8
  rcases h1 with ⟨rfl, h1⟩ | ⟨rfl, h1⟩ <;> rcases h2 with ⟨rfl, h2⟩ | ⟨rfl, h2⟩
  · exact ⟨by decide +kernel, by decide⟩
  · obtain ⟨k9, c1, c2, -⟩ := h2
    exact (h1 ⟨k9, c1, c2⟩).elim
  · obtain ⟨k9, c1, c2, -⟩ := h1
    exact (h2 ⟨k9, c1, c2⟩).elim
  · exact ⟨by decide +kernel, by decide⟩
theorem ag_price {g : Nat → Nat} (hW : g_wf g) {s l i : Int32} {tk : Nat → Nat × Nat} {n : Nat} {x1 x2 : Int32} (h1 : ∃ ks kl ki, ks < g 1 ∧ 5 ≤ kl ∧ kl ≤ 60 ∧ ki < g 0 ∧ s = nI ks ∧ l = nI kl ∧ i = nI ki ∧ x1 = nI (g_pc g tk n ks kl ki)) (h2 : ∃ ks kl ki, ks < g 1 ∧ 5 ≤ kl ∧ kl ≤ 60 ∧ ki < g 0 ∧ s = nI ks ∧ l = nI kl ∧ i = nI ki ∧ x2 = nI (g_pc g tk n ks kl ki)) : x2 = x1 := by
  have h20 := hW.nb
  have h8 := hW.ns
  have h160 := hW.no
  have hp8 := q_p8 h8
  obtain ⟨ks1, kl1, ki1, b1ks0, b1kl0, b1kl1, b1ki0, e1ks, e1kl, e1ki, hx1⟩ := h1
  obtain ⟨ks2, kl2, ki2, b2ks0, b2kl0, b2kl1, b2ki0, e2ks, e2kl, e2ki, hx2⟩ := h2
  obtain rfl := nI_j e1ks e2ks (by omega) (by omega)
  obtain rfl := nI_j e1kl e2kl (by omega) (by omega)
  obtain rfl := nI_j e1ki e2ki (by omega) (by omega)
  rw [hx1, hx2]
theorem an_price {g : Nat → Nat} (hW : g_wf g) {s l i : Int32} {tk : Nat → Nat × Nat} {n : Nat} {x1 : Int32} (h1 : ∃ ks kl ki, ks < g 1 ∧ 5 ≤ kl ∧ kl ≤ 60 ∧ ki < g 0 ∧ s = nI ks ∧ l = nI kl ∧ i = nI ki ∧ x1 = nI (g_pc g tk n ks kl ki)) {e : Nat} (h2 : (e = 1 ∧ ¬ (q_ix s (g 1) ∧ q_ix i (g 0))) ∨ (e = 2 ∧ q_ix s (g 1) ∧ q_ix i (g 0) ∧ ¬ q_rg l 5 60)) : False := by
  have h20 := hW.nb
  have h8 := hW.ns
  have h160 := hW.no
  have hp8 := q_p8 h8
  obtain ⟨ks1, kl1, ki1, b1ks0, b1kl0, b1kl1, b1ki0, e1ks, e1kl, e1ki, hx1⟩ := h1
  rcases h2 with ⟨-, h2⟩ | ⟨-, h2⟩
  · exact h2 ⟨⟨ks1, b1ks0, e1ks⟩, ⟨ki1, b1ki0, e1ki⟩⟩
  · exact h2.2.2 ⟨kl1, b1kl0, b1kl1, e1kl⟩
theorem ap_price {g : Nat → Nat} (hW : g_wf g) {s l i : Int32} {tk : Nat → Nat × Nat} {n : Nat} {x1 : Int32} (h1 : ∃ ks kl ki, ks < g 1 ∧ 5 ≤ kl ∧ kl ≤ 60 ∧ ki < g 0 ∧ s = nI ks ∧ l = nI kl ∧ i = nI ki ∧ x1 = nI (g_pc g tk n ks kl ki)) {E : String} (h2 : (E = eIO ∧ ¬ (q_ix s (g 1) ∧ q_ix i (g 0))) ∨ (E = eIA ∧ q_ix s (g 1) ∧ q_ix i (g 0) ∧ ¬ q_rg l 5 60)) : False := by
  refine an_price hW h1 (e := q_cod [eIO, eIA] E) ?_
  exact h2.imp (fun h => ⟨by rw [h.1]; decide +kernel, h.2⟩) (fun h => ⟨by rw [h.1]; decide +kernel, h.2⟩)
theorem ae_price {g : Nat → Nat} (hW : g_wf g) {s l i : Int32} {tk : Nat → Nat × Nat} {n : Nat} {E : String} (h1 : (E = eIO ∧ ¬ (q_ix s (g 1) ∧ q_ix i (g 0))) ∨ (E = eIA ∧ q_ix s (g 1) ∧ q_ix i (g 0) ∧ ¬ q_rg l 5 60)) {e : Nat} (h2 : (e = 1 ∧ ¬ (q_ix s (g 1) ∧ q_ix i (g 0))) ∨ (e = 2 ∧ q_ix s (g 1) ∧ q_ix i (g 0) ∧ ¬ q_rg l 5 60)) : e = q_cod [eIO, eIA] E ∧ ¬ nI e = 0 := by
  have h20 := hW.nb
  have h8 := hW.ns
  have h160 := hW.no
  have hp8 := q_p8 h8
  rcases h1 with ⟨rfl, h1⟩ | ⟨rfl, h1⟩ <;> rcases h2 with ⟨rfl, h2⟩ | ⟨rfl, h2⟩
  · exact ⟨by decide +kernel, by decide⟩
  · exact (h1 ⟨h2.1, h2.2.1⟩).elim
  · exact (h2 ⟨h1.1, h1.2.1⟩).elim
  · exact ⟨by decide +kernel, by decide⟩
theorem ag_cheapest {g : Nat → Nat} (hW : g_wf g) {s w : Int32} {tk : Nat → Nat × Nat} {n : Nat} {x1 x2 : Int32} (h1 : ∃ k v, k < g 1 ∧ 5 ≤ v ∧ v ≤ 60 ∧ s = nI k ∧ w = nI v ∧ x1 = q_m1 (g_chp g tk n k v (g 0)).1) (h2 : ∃ k v, k < g 1 ∧ 5 ≤ v ∧ v ≤ 60 ∧ s = nI k ∧ w = nI v ∧ x2 = q_m1 (g_chp g tk n k v (g 0)).1) : x2 = x1 := by
  have h20 := hW.nb
  have h8 := hW.ns
  have h160 := hW.no
  have hp8 := q_p8 h8
  obtain ⟨k1, v1, b1k0, b1v0, b1v1, e1k, e1v, hx1⟩ := h1
  obtain ⟨k2, v2, b2k0, b2v0, b2v1, e2k, e2v, hx2⟩ := h2
  obtain rfl := nI_j e1k e2k (by omega) (by omega)
  obtain rfl := nI_j e1v e2v (by omega) (by omega)
  rw [hx1, hx2]
theorem an_cheapest {g : Nat → Nat} (hW : g_wf g) {s w : Int32} {tk : Nat → Nat × Nat} {n : Nat} {x1 : Int32} (h1 : ∃ k v, k < g 1 ∧ 5 ≤ v ∧ v ≤ 60 ∧ s = nI k ∧ w = nI v ∧ x1 = q_m1 (g_chp g tk n k v (g 0)).1) {e : Nat} (h2 : (e = 1 ∧ ¬ q_ix s (g 1)) ∨ (e = 2 ∧ q_ix s (g 1) ∧ ¬ q_rg w 5 60)) : False := by
  have h20 := hW.nb
  have h8 := hW.ns
  have h160 := hW.no
  have hp8 := q_p8 h8
  obtain ⟨k1, v1, b1k0, b1v0, b1v1, e1k, e1v, hx1⟩ := h1
  rcases h2 with ⟨-, h2⟩ | ⟨-, h2⟩
  · exact h2 ⟨k1, b1k0, e1k⟩
  · exact h2.2 ⟨v1, b1v0, b1v1, e1v⟩
theorem ap_cheapest {g : Nat → Nat} (hW : g_wf g) {s w : Int32} {tk : Nat → Nat × Nat} {n : Nat} {x1 : Int32} (h1 : ∃ k v, k < g 1 ∧ 5 ≤ v ∧ v ≤ 60 ∧ s = nI k ∧ w = nI v ∧ x1 = q_m1 (g_chp g tk n k v (g 0)).1) {E : String} (h2 : (E = eIO ∧ ¬ q_ix s (g 1)) ∨ (E = eIA ∧ q_ix s (g 1) ∧ ¬ q_rg w 5 60)) : False := by
  refine an_cheapest hW h1 (e := q_cod [eIO, eIA] E) ?_
  exact h2.imp (fun h => ⟨by rw [h.1]; decide +kernel, h.2⟩) (fun h => ⟨by rw [h.1]; decide +kernel, h.2⟩)
theorem ae_cheapest {g : Nat → Nat} (hW : g_wf g) {s w : Int32} {tk : Nat → Nat × Nat} {n : Nat} {E : String} (h1 : (E = eIO ∧ ¬ q_ix s (g 1)) ∨ (E = eIA ∧ q_ix s (g 1) ∧ ¬ q_rg w 5 60)) {e : Nat} (h2 : (e = 1 ∧ ¬ q_ix s (g 1)) ∨ (e = 2 ∧ q_ix s (g 1) ∧ ¬ q_rg w 5 60)) : e = q_cod [eIO, eIA] E ∧ ¬ nI e = 0 := by
  have h20 := hW.nb
  have h8 := hW.ns
  have h160 := hW.no
  have hp8 := q_p8 h8
  rcases h1 with ⟨rfl, h1⟩ | ⟨rfl, h1⟩ <;> rcases h2 with ⟨rfl, h2⟩ | ⟨rfl, h2⟩
  · exact ⟨by decide +kernel, by decide⟩
  · exact (h1 h2.1).elim
  · exact (h2 h1.1).elim
  · exact ⟨by decide +kernel, by decide⟩
theorem an_book {g : Nat → Nat} (hW : g_wf g) {s l i : Int32} {x1 : Int32} (h1 : ∃ ks kl ki, ks < g 1 ∧ 5 ≤ kl ∧ kl ≤ 60 ∧ ki < g 0 ∧ s = nI ks ∧ l = nI kl ∧ i = nI ki ∧ x1 = x1) {e : Nat} (h2 : (e = 1 ∧ ¬ (q_ix s (g 1) ∧ q_ix i (g 0))) ∨ (e = 2 ∧ q_ix s (g 1) ∧ q_ix i (g 0) ∧ ¬ q_rg l 5 60)) : False := by
  have h20 := hW.nb
  have h8 := hW.ns
  have h160 := hW.no
  have hp8 := q_p8 h8
  obtain ⟨ks1, kl1, ki1, b1ks0, b1kl0, b1kl1, b1ki0, e1ks, e1kl, e1ki, hx1⟩ := h1
  rcases h2 with ⟨-, h2⟩ | ⟨-, h2⟩
  · exact h2 ⟨⟨ks1, b1ks0, e1ks⟩, ⟨ki1, b1ki0, e1ki⟩⟩
  · exact h2.2.2 ⟨kl1, b1kl0, b1kl1, e1kl⟩
theorem ap_book {g : Nat → Nat} (hW : g_wf g) {s l i : Int32} {x1 : Int32} (h1 : ∃ ks kl ki, ks < g 1 ∧ 5 ≤ kl ∧ kl ≤ 60 ∧ ki < g 0 ∧ s = nI ks ∧ l = nI kl ∧ i = nI ki ∧ x1 = x1) {E : String} (h2 : (E = eIO ∧ ¬ (q_ix s (g 1) ∧ q_ix i (g 0))) ∨ (E = eIA ∧ q_ix s (g 1) ∧ q_ix i (g 0) ∧ ¬ q_rg l 5 60)) : False := by
  refine an_book hW h1 (e := q_cod [eIO, eIA] E) ?_
  exact h2.imp (fun h => ⟨by rw [h.1]; decide +kernel, h.2⟩) (fun h => ⟨by rw [h.1]; decide +kernel, h.2⟩)
theorem ae_book {g : Nat → Nat} (hW : g_wf g) {s l i : Int32} {E : String} (h1 : (E = eIO ∧ ¬ (q_ix s (g 1) ∧ q_ix i (g 0))) ∨ (E = eIA ∧ q_ix s (g 1) ∧ q_ix i (g 0) ∧ ¬ q_rg l 5 60)) {e : Nat} (h2 : (e = 1 ∧ ¬ (q_ix s (g 1) ∧ q_ix i (g 0))) ∨ (e = 2 ∧ q_ix s (g 1) ∧ q_ix i (g 0) ∧ ¬ q_rg l 5 60)) : e = q_cod [eIO, eIA] E ∧ ¬ nI e = 0 := by
  have h20 := hW.nb
  have h8 := hW.ns
  have h160 := hW.no
  have hp8 := q_p8 h8
  rcases h1 with ⟨rfl, h1⟩ | ⟨rfl, h1⟩ <;> rcases h2 with ⟨rfl, h2⟩ | ⟨rfl, h2⟩
  · exact ⟨by decide +kernel, by decide⟩
  · exact (h1 ⟨h2.1, h2.2.1⟩).elim
  · exact (h2 ⟨h1.1, h1.2.1⟩).elim
  · exact ⟨by decide +kernel, by decide⟩
theorem an_setCap {g : Nat → Nat} (hW : g_wf g) {s w : Int32} {x1 : Int32} (h1 : ∃ k v, k < g 1 ∧ 1 ≤ v ∧ v ≤ 9 ∧ s = nI k ∧ w = nI v ∧ x1 = x1) {e : Nat} (h2 : (e = 1 ∧ ¬ q_ix s (g 1)) ∨ (e = 2 ∧ q_ix s (g 1) ∧ ¬ q_rg w 1 9)) : False := by
  have h20 := hW.nb
  have h8 := hW.ns
  have h160 := hW.no
  have hp8 := q_p8 h8
  obtain ⟨k1, v1, b1k0, b1v0, b1v1, e1k, e1v, hx1⟩ := h1
  rcases h2 with ⟨-, h2⟩ | ⟨-, h2⟩
  · exact h2 ⟨k1, b1k0, e1k⟩
  · exact h2.2 ⟨v1, b1v0, b1v1, e1v⟩
theorem ap_setCap {g : Nat → Nat} (hW : g_wf g) {s w : Int32} {x1 : Int32} (h1 : ∃ k v, k < g 1 ∧ 1 ≤ v ∧ v ≤ 9 ∧ s = nI k ∧ w = nI v ∧ x1 = x1) {E : String} (h2 : (E = eIO ∧ ¬ q_ix s (g 1)) ∨ (E = eIA ∧ q_ix s (g 1) ∧ ¬ q_rg w 1 9)) : False := by
  refine an_setCap hW h1 (e := q_cod [eIO, eIA] E) ?_
  exact h2.imp (fun h => ⟨by rw [h.1]; decide +kernel, h.2⟩) (fun h => ⟨by rw [h.1]; decide +kernel, h.2⟩)
theorem ae_setCap {g : Nat → Nat} (hW : g_wf g) {s w : Int32} {E : String} (h1 : (E = eIO ∧ ¬ q_ix s (g 1)) ∨ (E = eIA ∧ q_ix s (g 1) ∧ ¬ q_rg w 1 9)) {e : Nat} (h2 : (e = 1 ∧ ¬ q_ix s (g 1)) ∨ (e = 2 ∧ q_ix s (g 1) ∧ ¬ q_rg w 1 9)) : e = q_cod [eIO, eIA] E ∧ ¬ nI e = 0 := by
  have h20 := hW.nb
  have h8 := hW.ns
  have h160 := hW.no
  have hp8 := q_p8 h8
  rcases h1 with ⟨rfl, h1⟩ | ⟨rfl, h1⟩ <;> rcases h2 with ⟨rfl, h2⟩ | ⟨rfl, h2⟩
  · exact ⟨by decide +kernel, by decide⟩
  · exact (h1 h2.1).elim
  · exact (h2 h1.1).elim
  · exact ⟨by decide +kernel, by decide⟩
theorem an_campaign {g : Nat → Nat} (hW : g_wf g) {s l w : Int32} {x1 : Int32} (h1 : ∃ ks kl km, ks < g 1 ∧ 5 ≤ kl ∧ kl ≤ 60 ∧ 1 ≤ km ∧ km ≤ 20 ∧ s = nI ks ∧ l = nI kl ∧ w = nI km ∧ x1 = x1) {e : Nat} (h2 : (e = 1 ∧ ¬ q_ix s (g 1)) ∨ (e = 2 ∧ q_ix s (g 1) ∧ ¬ (q_rg l 5 60 ∧ q_rg w 1 20))) : False := by
  have h20 := hW.nb
  have h8 := hW.ns
  have h160 := hW.no
  have hp8 := q_p8 h8
  obtain ⟨ks1, kl1, km1, b1ks0, b1kl0, b1kl1, b1km0, b1km1, e1ks, e1kl, e1km, hx1⟩ := h1
  rcases h2 with ⟨-, h2⟩ | ⟨-, h2⟩
  · exact h2 ⟨ks1, b1ks0, e1ks⟩
  · exact h2.2 ⟨⟨kl1, b1kl0, b1kl1, e1kl⟩, ⟨km1, b1km0, b1km1, e1km⟩⟩
theorem ap_campaign {g : Nat → Nat} (hW : g_wf g) {s l w : Int32} {x1 : Int32} (h1 : ∃ ks kl km, ks < g 1 ∧ 5 ≤ kl ∧ kl ≤ 60 ∧ 1 ≤ km ∧ km ≤ 20 ∧ s = nI ks ∧ l = nI kl ∧ w = nI km ∧ x1 = x1) {E : String} (h2 : (E = eIO ∧ ¬ q_ix s (g 1)) ∨ (E = eIA ∧ q_ix s (g 1) ∧ ¬ (q_rg l 5 60 ∧ q_rg w 1 20))) : False := by
  refine an_campaign hW h1 (e := q_cod [eIO, eIA] E) ?_
  exact h2.imp (fun h => ⟨by rw [h.1]; decide +kernel, h.2⟩) (fun h => ⟨by rw [h.1]; decide +kernel, h.2⟩)
theorem ae_campaign {g : Nat → Nat} (hW : g_wf g) {s l w : Int32} {E : String} (h1 : (E = eIO ∧ ¬ q_ix s (g 1)) ∨ (E = eIA ∧ q_ix s (g 1) ∧ ¬ (q_rg l 5 60 ∧ q_rg w 1 20))) {e : Nat} (h2 : (e = 1 ∧ ¬ q_ix s (g 1)) ∨ (e = 2 ∧ q_ix s (g 1) ∧ ¬ (q_rg l 5 60 ∧ q_rg w 1 20))) : e = q_cod [eIO, eIA] E ∧ ¬ nI e = 0 := by
  have h20 := hW.nb
  have h8 := hW.ns
  have h160 := hW.no
  have hp8 := q_p8 h8
  rcases h1 with ⟨rfl, h1⟩ | ⟨rfl, h1⟩ <;> rcases h2 with ⟨rfl, h2⟩ | ⟨rfl, h2⟩
  · exact ⟨by decide +kernel, by decide⟩
  · exact (h1 h2.1).elim
  · exact (h2 h1.1).elim
  · exact ⟨by decide +kernel, by decide⟩
theorem an_cancel {g : Nat → Nat} (hW : g_wf g) {i : Int32} {k : Nat} (hk : k < g 0) (ek : i = nI k) (h0 : g (11 + 30 * k) = 0) {e : Nat} (h2 : (e = 1 ∧ ¬ q_ix i (g 0)) ∨ (e = 2 ∧ ∃ k, k < g 0 ∧ i = nI k ∧ g (11 + 30 * k) ≠ 0)) : False := by
  have h20 := hW.nb
  rcases h2 with ⟨-, h⟩ | ⟨-, k9, c1, c2, c3⟩
  · exact h ⟨k, hk, ek⟩
  · obtain rfl := nI_j ek c2 (by omega) (by omega)
    exact c3 h0
theorem ap_cancel {g : Nat → Nat} (hW : g_wf g) {i : Int32} {k : Nat} (hk : k < g 0) (ek : i = nI k) (h0 : g (11 + 30 * k) = 0) {E : String} (h2 : (E = eIO ∧ ¬ q_ix i (g 0)) ∨ (E = eIS ∧ ∃ k, k < g 0 ∧ i = nI k ∧ g (11 + 30 * k) ≠ 0)) : False := by
  refine an_cancel hW hk ek h0 (e := q_cod [eIO, eIS] E) ?_
  exact h2.imp (fun h => ⟨by rw [h.1]; decide +kernel, h.2⟩) (fun h => ⟨by rw [h.1]; decide +kernel, h.2⟩)
theorem ae_cancel {g : Nat → Nat} {i : Int32} {E : String} (h1 : (E = eIO ∧ ¬ q_ix i (g 0)) ∨ (E = eIS ∧ ∃ k, k < g 0 ∧ i = nI k ∧ g (11 + 30 * k) ≠ 0)) {e : Nat} (h2 : (e = 1 ∧ ¬ q_ix i (g 0)) ∨ (e = 2 ∧ ∃ k, k < g 0 ∧ i = nI k ∧ g (11 + 30 * k) ≠ 0)) : e = q_cod [eIO, eIS] E ∧ ¬ nI e = 0 := by
  rcases h1 with ⟨rfl, h1⟩ | ⟨rfl, k1, c1, c2, c3⟩ <;> rcases h2 with ⟨rfl, h2⟩ | ⟨rfl, k2, d1, d2, d3⟩
  · exact ⟨by decide +kernel, by decide⟩
  · exact (h1 ⟨k2, d1, d2⟩).elim
  · exact (h2 ⟨k1, c1, c2⟩).elim
  · exact ⟨by decide +kernel, by decide⟩
def q_rmX (g : Nat → Nat) (i p : Int32) (j : Nat) : Prop := (j = 1 ∧ ¬ q_ix i (g 0)) ∨ (j = 2 ∧ ∃ k, k < g 0 ∧ i = nI k ∧ ¬ q_ix p (g (12 + 30 * k))) ∨ (j = 3 ∧ ∃ k q, k < g 0 ∧ q < g (12 + 30 * k) ∧ i = nI k ∧ p = nI q ∧ g_can g k q = 0)
theorem an_remove {g : Nat → Nat} (hW : g_wf g) {i p : Int32} {k q : Nat} (hk : k < g 0) (hq : q < g (12 + 30 * k)) (ek : i = nI k) (eq : p = nI q) (h0 : g_can g k q ≠ 0) {e : Nat} (h2 : q_rmX g i p e) : False := by
  have h20 := hW.nb
  have hb := (hW.br hk).2.2.2.2.2.1
  rcases h2 with ⟨-, h⟩ | ⟨-, k9, c1, c2, c3⟩ | ⟨-, k9, q9, c1, c2, c3, c4, c5⟩
  · exact h ⟨k, hk, ek⟩
  · obtain rfl := nI_j ek c2 (by omega) (by omega)
    exact c3 ⟨q, hq, eq⟩
  · obtain rfl := nI_j ek c3 (by omega) (by omega)
    obtain rfl := nI_j eq c4 (by omega) (by omega)
    exact h0 c5
def q_rmE (g : Nat → Nat) (i p : Int32) (E : String) : Prop := (E = eIO ∧ ¬ q_ix i (g 0)) ∨ (E = eNS ∧ ∃ k, k < g 0 ∧ i = nI k ∧ ¬ q_ix p (g (12 + 30 * k))) ∨ (E = eIS ∧ ∃ k q, k < g 0 ∧ q < g (12 + 30 * k) ∧ i = nI k ∧ p = nI q ∧ g_can g k q = 0)
theorem q_rmE.x {g : Nat → Nat} {i p : Int32} {E : String} (h : q_rmE g i p E) : q_rmX g i p (q_cod [eIO, eNS, eIS] E) :=
  h.imp (fun h => ⟨by rw [h.1]; decide +kernel, h.2⟩) (Or.imp (fun h => ⟨by rw [h.1]; decide +kernel, h.2⟩) (fun h => ⟨by rw [h.1]; decide +kernel, h.2⟩))
theorem ae_remove {g : Nat → Nat} (hW : g_wf g) {i p : Int32} {E : String} (h1 : q_rmE g i p E) {e : Nat} (h2 : q_rmX g i p e) : e = q_cod [eIO, eNS, eIS] E ∧ ¬ nI e = 0 := by
  have h20 := hW.nb
  have aux : ∀ {a b : Nat}, q_rmX g i p a → q_rmX g i p b → a = b := by
    intro a b h1 h2
    rcases h1 with ⟨rfl, h1⟩ | ⟨rfl, k1, c1, c2, c3⟩ | ⟨rfl, k1, q1, c1, c2, c3, c4, c5⟩ <;> rcases h2 with ⟨rfl, h2⟩ | ⟨rfl, k2, d1, d2, d3⟩ | ⟨rfl, k2, q2, d1, d2, d3, d4, d5⟩
    · rfl
    · exact (h1 ⟨k2, d1, d2⟩).elim
    · exact (h1 ⟨k2, d1, d3⟩).elim
    · exact (h2 ⟨k1, c1, c2⟩).elim
    · rfl
    · obtain rfl := nI_j c2 d3 (by omega) (by omega)
      exact (c3 ⟨q2, d2, d4⟩).elim
    · exact (h2 ⟨k1, c1, c3⟩).elim
    · obtain rfl := nI_j c3 d2 (by omega) (by omega)
      exact (d3 ⟨q1, c2, c4⟩).elim
    · rfl
  refine ⟨aux h2 h1.x, ?_⟩
  rcases h2 with ⟨rfl, -⟩ | ⟨rfl, -⟩ | ⟨rfl, -⟩ <;> decide
