/-! the whole price expression is read -/
section RE
variable {G : lq_G} {z : Nat} {S : lq_S} {N : lq_N}
theorem k_ex {r x nb L fo : Nat} (h5 : sh5 S r x nb) (hF : sh2 S fo) (hrf : r + 1 < fo) (hxr : x < r) (hnb : nb ≤ 800) (hL : L ≤ nb) {t : Nat → Nat} (ht : ∀ j, j < L → t j < 256) {v : Value} (hX : lq_sx G v) : ∀ f : Nat, (∀ (d : Nat), d ≤ 4 → ∀ (M : lq_M) (s : p_S), s.1 ≤ L → s.2.1 ≤ s.1 → (∀ j, j < L → M x j = t j) → p_pc M r fo t L s → 4 * (L - s.1) + 1 ≤ f → LM G YX5_readFactor (6 + 3 * (4 - d)) 0 0 [.ref r, .ref fo, .int (nI d)] z S M N (lq_mi z S N (fun y M1 => p_pt M M1 r fo t L (p_ex t L f 0 d s) y)) lq_no) ∧ (∀ (d : Nat), d ≤ 4 → ∀ (M : lq_M) (s : p_S), s.1 ≤ L → s.2.1 ≤ s.1 → (∀ j, j < L → M x j = t j) → p_pc M r fo t L s → 4 * (L - s.1) + 2 ≤ f → LM G YX5_readTerm (7 + 3 * (4 - d)) 0 0 [.ref r, .ref fo, .int (nI d)] z S M N (lq_mi z S N (fun y M1 => p_pt M M1 r fo t L (p_ex t L f 1 d s) y)) lq_no) ∧ (∀ (d : Nat), d ≤ 4 → ∀ (M : lq_M) (s : p_S), s.1 ≤ L → s.2.1 ≤ s.1 → (∀ j, j < L → M x j = t j) → p_pc M r fo t L s → 4 * (L - s.1) + 3 ≤ f → LM G YX5_readSum (8 + 3 * (4 - d)) 0 0 [.ref r, .ref fo, .int (nI d)] z S M N (lq_mi z S N (fun y M1 => p_pt M M1 r fo t L (p_ex t L f 2 d s) y)) lq_no) ∧ (∀ (d : Nat), d ≤ 4 → ∀ (M : lq_M) (s : p_S) (k : Nat), s.1 ≤ L → s.2.1 ≤ s.1 → (∀ j, j < L → M x j = t j) → p_pc M r fo t L s → 4 * (L - s.1) + 1 ≤ f → k ≤ s.1 → ∀ (Q : lq_P), (∀ y M1, p_pt M M1 r fo t L (p_ex t L f 3 d s) y → Q (some (.int y)) z S M1 N) → LW G YX5_readTerm (7 + 3 * (4 - d)) 0 0 Q lq_no z S M N 13 [some (.ref r), some (.ref fo), some (.int (nI d)), some (.int (nI k)), none] []) ∧ (∀ (d : Nat), d ≤ 4 → ∀ (M : lq_M) (s : p_S) (k : Nat), s.1 ≤ L → s.2.1 ≤ s.1 → (∀ j, j < L → M x j = t j) → p_pc M r fo t L s → 4 * (L - s.1) + 1 ≤ f → k ≤ s.1 → ∀ (Q : lq_P), (∀ y M1, p_pt M M1 r fo t L (p_ex t L f 4 d s) y → Q (some (.int y)) z S M1 N) → LW G YX5_readSum (8 + 3 * (4 - d)) 0 0 Q lq_no z S M N 13 [some (.ref r), some (.ref fo), some (.int (nI d)), some (.int (nI k)), none] []) := by
  intro f
  induction f with
  | zero => exact ⟨fun _ _ _ _ _ _ _ _ h => absurd h (by omega), fun _ _ _ _ _ _ _ _ h => absurd h (by omega), fun _ _ _ _ _ _ _ _ h => absurd h (by omega), fun _ _ _ _ _ _ _ _ _ h => absurd h (by omega), fun _ _ _ _ _ _ _ _ _ h => absurd h (by omega)⟩
  | succ f ih =>
    obtain ⟨i0, i1, i2, i3, i4⟩ := ih
    refine ⟨fun d hd M s he hn hM hP hf => ?_, fun d hd M s he hn hM hP hf => ?_, fun d hd M s he hn hM hP hf => ?_, fun d hd M s k he hn hM hP hf hk Q hQ => ?_, fun d hd M s k he hn hM hP hf hk Q hQ => ?_⟩
    · exact s_X5_readFactor h5 hF hrf hxr hnb hL ht hX hd he hn hM hP hf (fun hd4 => i2 (d + 1) (by omega))
    · exact s_X5_readTerm h5 hF hrf hxr hnb hL ht he hn hM hP hf (i0 d hd) (i3 d hd)
    · exact s_X5_readSum h5 hF hrf hxr hnb hL ht he hn hM hP hf (i1 d hd) (i4 d hd)
    · exact sl_X5_readTerm h5 hF hrf hxr hnb hL ht he hn hM hP hf (i0 d hd) (i3 d hd) hk hQ
    · exact sl_X5_readSum h5 hF hrf hxr hnb hL ht he hn hM hP hf (i1 d hd) (i4 d hd) hk hQ
/-- the expression behind 'price' -/
theorem k_X5_readSum {r x nb L fo : Nat} (h5 : sh5 S r x nb) (hF : sh2 S fo) (hrf : r + 1 < fo) (hxr : x < r) (hnb : nb ≤ 800) (hL : L ≤ nb) {t : Nat → Nat} (ht : ∀ j, j < L → t j < 256) {v : Value} (hX : lq_sx G v) {M : lq_M} {e : Nat} {tk : Nat → Nat × Nat} (he : e ≤ L) (hM : ∀ j, j < L → M x j = t j) (hT : q_tks M (r + 1) t L e) (h0 : M fo 1 = 0) : LM G YX5_readSum 20 0 0 [.ref r, .ref fo, .int (nI 0)] z S M N (lq_mi z S N (fun y M1 => p_pt M M1 r fo t L (p_ex t L 3203 2 0 (e, 0, tk)) y)) lq_no :=
  (k_ex h5 hF hrf hxr hnb hL ht hX 3203).2.2.1 0 (by decide) M (e, 0, tk) he (Nat.zero_le e) hM ⟨hT, h0, fun j hj => absurd hj (Nat.not_lt_zero j)⟩ (by show 4 * (L - e) + 3 ≤ 3203; omega)
end RE
