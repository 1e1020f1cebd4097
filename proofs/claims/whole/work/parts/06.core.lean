section LQ2
variable {G : lq_G} {Y : lq_Y} {d kc ks z : Nat} {S : lq_S} {M : lq_M} {N : lq_N} {Q : lq_P} {X : lq_E} {pc : Nat} {lv : List (Option Value)} {st : List Value}
theorem lq_ty_at {G : lq_G} {s : State} (h : lq_K G s) {t : Nat} {q : ClassId × FieldType} (ht : (lq_ty G)[t]? = some q) : ArrOfT s q.1 q.2 := (h.1.2 t q ht).1
theorem qw_iald {a n j : Nat} (hd : decode Y.2.1 pc = .ok (.iaload, 1)) (hS : S a = some (.inr (.inl (0, n)))) (hj : j < n) (hn : n < 2 ^ 31) (k : LW G Y d kc ks Q X z S M N (pc + 1) lv (.int (nI (M a j)) :: st)) : LW G Y d kc ks Q X z S M N pc lv (.int (nI j) :: .ref a :: st) := by
  intro p e R s m args below meth c H locs cells slots ls C
  obtain ⟨-, h2⟩ := C.2.2.2.1.1.2.2.2 a _ hS
  have k' := k p e R s m args below meth c H locs cells slots ls C
  refine W.iald (v := .int (nI (M a j))) C.1.1 C.1.2.1 h2 (lq_ty_at C.2.2.1.1 (t := 0) rfl n (fun j => .int (nI (M a j)))) (fun q => by cases q) ?_ ?_ rfl rfl hd k'
  · show ¬ (nI j < 0 ∨ (arrV _ _ _).slots.size ≤ _)
    rw [arrV_size]
    exact vp_in_nI hj hn
  · show (arrV _ _ _).slots[_]? = _
    rw [arrV_read _ _ (by rw [nI_clamp (by omega)]; exact hj), nI_clamp (by omega)]
theorem qw_bald {a n j : Nat} (hd : decode Y.2.1 pc = .ok (.baload, 1)) (hS : S a = some (.inr (.inl (1, n)))) (hj : j < n) (hn : n < 2 ^ 31) (k : LW G Y d kc ks Q X z S M N (pc + 1) lv (.int (sb_b (M a j)) :: st)) : LW G Y d kc ks Q X z S M N pc lv (.int (nI j) :: .ref a :: st) := by
  intro p e R s m args below meth c H locs cells slots ls C
  obtain ⟨-, h2⟩ := C.2.2.2.1.1.2.2.2 a _ hS
  have k' := k p e R s m args below meth c H locs cells slots ls C
  refine W.bald (v := .int (sb_b (M a j))) C.1.1 C.1.2.1 h2 (lq_ty_at C.2.2.1.1 (t := 1) rfl n (fun j => .int (sb_b (M a j)))) (fun q => by cases q) ?_ ?_ rfl rfl hd k'
  · show ¬ (nI j < 0 ∨ (arrV _ _ _).slots.size ≤ _)
    rw [arrV_size]
    exact vp_in_nI hj hn
  · show (arrV _ _ _).slots[_]? = _
    rw [arrV_read _ _ (by rw [nI_clamp (by omega)]; exact hj), nI_clamp (by omega)]
theorem qw_lald {a n j : Nat} (hd : decode Y.2.1 pc = .ok (.laload, 1)) (hS : S a = some (.inr (.inl (2, n)))) (hj : j < n) (hn : n < 2 ^ 31) (k : LW G Y d kc ks Q X z S M N (pc + 1) lv (.long (N a j) :: st)) : LW G Y d kc ks Q X z S M N pc lv (.int (nI j) :: .ref a :: st) := by
  intro p e R s m args below meth c H locs cells slots ls C
  obtain ⟨-, h2⟩ := C.2.2.2.1.1.2.2.2 a _ hS
  have k' := k p e R s m args below meth c H locs cells slots ls C
  refine W.lald (v := .long (N a j)) C.1.1 C.1.2.1 h2 (lq_ty_at C.2.2.1.1 (t := 2) rfl n (fun j => .long (N a j))) (fun q => by cases q) ?_ ?_ rfl rfl hd k'
  · show ¬ (nI j < 0 ∨ (arrV _ _ _).slots.size ≤ _)
    rw [arrV_size]
    exact vp_in_nI hj hn
  · show (arrV _ _ _).slots[_]? = _
    rw [arrV_read _ _ (by rw [nI_clamp (by omega)]; exact hj), nI_clamp (by omega)]
theorem qw_aald {a n j r t : Nat} {f : Nat → Option Nat} {ty : FieldType} (hd : decode Y.2.1 pc = .ok (.aaload, 1)) (hS : S a = some (.inr (.inr (t, n, f)))) (ht : (lq_ty G)[t]? = some (lq_c G t, ty)) (hty : ty.isReference = true) (hj : j < n) (hn : n < 2 ^ 31) (hf : f j = some r) (k : LW G Y d kc ks Q X z S M N (pc + 1) lv (.ref r :: st)) : LW G Y d kc ks Q X z S M N pc lv (.int (nI j) :: .ref a :: st) := by
  intro p e R s m args below meth c H locs cells slots ls C
  obtain ⟨-, h2⟩ := C.2.2.2.1.1.2.2.2 a _ hS
  have k' := k p e R s m args below meth c H locs cells slots ls C
  have hR : va_rf (f j) = .ref r := by rw [hf]; rfl
  refine W.aald (v := .ref r) (ty := ty) C.1.1 C.1.2.1 h2 (lq_ty_at C.2.2.1.1 ht n (fun j => va_rf (f j))) hty (fun q => by cases q) ?_ ?_ rfl rfl hd k'
  · show ¬ (nI j < 0 ∨ (arrV _ _ _).slots.size ≤ _)
    rw [arrV_size]
    exact vp_in_nI hj hn
  · show (arrV _ _ _).slots[_]? = _
    rw [arrV_read _ _ (by rw [nI_clamp (by omega)]; exact hj), nI_clamp (by omega)]
    exact congrArg some hR
theorem qw_alen {a n t : Nat} {ty : FieldType} {m : Nat} (hd : decode Y.2.1 pc = .ok (.arraylength, 1)) (hS : S a = some (.inr (.inl (t, n)))) (ht : (t = 0 ∧ m = 0 ∧ ty = .int) ∨ (t = 1 ∧ m = 1 ∧ ty = .byte) ∨ (t = 2 ∧ m = 2 ∧ ty = .long)) (k : LW G Y d kc ks Q X z S M N (pc + 1) lv (.int (nI n) :: st)) : LW G Y d kc ks Q X z S M N pc lv (.ref a :: st) := by
  intro p e R s m9 args below meth c H locs cells slots ls C
  obtain ⟨-, h2⟩ := C.2.2.2.1.1.2.2.2 a _ hS
  have k' := k p e R s m9 args below meth c H locs cells slots ls C
  rcases ht with ⟨rfl, rfl, rfl⟩ | ⟨rfl, rfl, rfl⟩ | ⟨rfl, rfl, rfl⟩
  · exact W.alen C.1.1 C.1.2.1 h2 (lq_ty_at C.2.2.1.1 (t := 0) rfl n (fun j => .int (nI (M a j)))) (by show (arrV _ _ _).slots.size.toInt32 = _; rw [arrV_size]; rfl) rfl rfl hd k'
  · exact W.alen C.1.1 C.1.2.1 h2 (lq_ty_at C.2.2.1.1 (t := 1) rfl n (fun j => .int (sb_b (M a j)))) (by show (arrV _ _ _).slots.size.toInt32 = _; rw [arrV_size]; rfl) rfl rfl hd k'
  · exact W.alen C.1.1 C.1.2.1 h2 (lq_ty_at C.2.2.1.1 (t := 2) rfl n (fun j => .long (N a j))) (by show (arrV _ _ _).slots.size.toInt32 = _; rw [arrV_size]; rfl) rfl rfl hd k'
theorem qw_aleni {a n : Nat} (hd : decode Y.2.1 pc = .ok (.arraylength, 1)) (hS : S a = some (.inr (.inl (0, n)))) (k : LW G Y d kc ks Q X z S M N (pc + 1) lv (.int (nI n) :: st)) : LW G Y d kc ks Q X z S M N pc lv (.ref a :: st) := qw_alen hd hS (Or.inl ⟨rfl, rfl, rfl⟩) k
theorem qw_alenb {a n : Nat} (hd : decode Y.2.1 pc = .ok (.arraylength, 1)) (hS : S a = some (.inr (.inl (1, n)))) (k : LW G Y d kc ks Q X z S M N (pc + 1) lv (.int (nI n) :: st)) : LW G Y d kc ks Q X z S M N pc lv (.ref a :: st) := qw_alen hd hS (Or.inr (Or.inl ⟨rfl, rfl, rfl⟩)) k
theorem qw_alenr {a n t : Nat} {f : Nat → Option Nat} {ty : FieldType} (hd : decode Y.2.1 pc = .ok (.arraylength, 1)) (hS : S a = some (.inr (.inr (t, n, f)))) (ht : (lq_ty G)[t]? = some (lq_c G t, ty)) (k : LW G Y d kc ks Q X z S M N (pc + 1) lv (.int (nI n) :: st)) : LW G Y d kc ks Q X z S M N pc lv (.ref a :: st) := by
  intro p e R s m9 args below meth c H locs cells slots ls C
  obtain ⟨-, h2⟩ := C.2.2.2.1.1.2.2.2 a _ hS
  have k' := k p e R s m9 args below meth c H locs cells slots ls C
  exact W.alen C.1.1 C.1.2.1 h2 (lq_ty_at C.2.2.1.1 ht n (fun j => va_rf (f j))) (by show (arrV _ _ _).slots.size.toInt32 = _; rw [arrV_size]; rfl) rfl rfl hd k'
theorem qw_iast {a n j v : Nat} (hd : decode Y.2.1 pc = .ok (.iastore, 1)) (hS : S a = some (.inr (.inl (0, n)))) (hj : j < n) (hn : n < 2 ^ 31) (k : LW G Y d kc ks Q X z S (lq_up M a j v) N (pc + 1) lv st) : LW G Y d kc ks Q X z S M N pc lv (.int (nI v) :: .int (nI j) :: .ref a :: st) := by
  intro p e R s m args below meth c H locs cells slots ls C
  obtain ⟨ha, h2⟩ := C.2.2.2.1.1.2.2.2 a _ hS
  refine W.iast C.1.1 C.1.2.1 h2 (lq_ty_at C.2.2.1.1 (t := 0) rfl n (fun j => .int (nI (M a j)))) (fun q => by cases q) ?_ rfl rfl hd fun H1 e1 e2 e3 => ?_
  · show ¬ (nI j < 0 ∨ (arrV _ _ _).slots.size ≤ _)
    rw [arrV_size]
    exact vp_in_nI hj hn
  · refine k p e R s m args below meth c H1 _ cells slots ls ⟨C.1, C.2.1, C.2.2.1, ⟨C.2.2.2.1.1.upd e2 e3 ha (fun _ _ => rfl) (fun b hb => lq_up_n M j v hb) (fun _ _ => rfl) (fun c9 h9 => ?_), C.2.2.2.1.2.put e2 e3 ha⟩, C.2.2.2.2.1, C.2.2.2.2.2⟩
    cases hS.symm.trans h9
    show H1[a]? = some (arrV (lq_c G 0) n (fun q => .int (nI (lq_up M a j v a q))))
    rw [e1, nI_clamp (by omega)]
    refine congrArg some (Eq.trans (arrV_store (lq_c G 0) n j (fun q => .int (nI (M a q))) (.int (nI v))) (congrArg (arrV (lq_c G 0) n) (funext fun q => ?_)))
    rw [lq_up_a]
    by_cases hq : q = j
    · simp [updV, hq]
    · simp [updV, hq]
theorem qw_bast {a n j v : Nat} (hd : decode Y.2.1 pc = .ok (.bastore, 1)) (hS : S a = some (.inr (.inl (1, n)))) (hj : j < n) (hn : n < 2 ^ 31) (k : LW G Y d kc ks Q X z S (lq_up M a j v) N (pc + 1) lv st) : LW G Y d kc ks Q X z S M N pc lv (.int (sb_b v) :: .int (nI j) :: .ref a :: st) := by
  intro p e R s m args below meth c H locs cells slots ls C
  obtain ⟨ha, h2⟩ := C.2.2.2.1.1.2.2.2 a _ hS
  refine W.bast C.1.1 C.1.2.1 h2 (lq_ty_at C.2.2.1.1 (t := 1) rfl n (fun j => .int (sb_b (M a j)))) (fun q => by cases q) ?_ rfl rfl hd fun H1 e1 e2 e3 => ?_
  · show ¬ (nI j < 0 ∨ (arrV _ _ _).slots.size ≤ _)
    rw [arrV_size]
    exact vp_in_nI hj hn
  · refine k p e R s m args below meth c H1 _ cells slots ls ⟨C.1, C.2.1, C.2.2.1, ⟨C.2.2.2.1.1.upd e2 e3 ha (fun _ _ => rfl) (fun b hb => lq_up_n M j v hb) (fun _ _ => rfl) (fun c9 h9 => ?_), C.2.2.2.1.2.put e2 e3 ha⟩, C.2.2.2.2.1, C.2.2.2.2.2⟩
    cases hS.symm.trans h9
    show H1[a]? = some (arrV (lq_c G 1) n (fun q => .int (sb_b (lq_up M a j v a q))))
    rw [e1, nI_clamp (by omega), show narrow .byte (.int (sb_b v)) = .int (sb_b v) from pk_nb _]
    refine congrArg some (Eq.trans (arrV_store (lq_c G 1) n j (fun q => .int (sb_b (M a q))) (.int (sb_b v))) (congrArg (arrV (lq_c G 1) n) (funext fun q => ?_)))
    rw [lq_up_a]
    by_cases hq : q = j
    · simp [updV, hq]
    · simp [updV, hq]
theorem qw_last {a n j : Nat} {v : Int64} (hd : decode Y.2.1 pc = .ok (.lastore, 1)) (hS : S a = some (.inr (.inl (2, n)))) (hj : j < n) (hn : n < 2 ^ 31) (k : LW G Y d kc ks Q X z S M (lq_up N a j v) (pc + 1) lv st) : LW G Y d kc ks Q X z S M N pc lv (.long v :: .int (nI j) :: .ref a :: st) := by
  intro p e R s m args below meth c H locs cells slots ls C
  obtain ⟨ha, h2⟩ := C.2.2.2.1.1.2.2.2 a _ hS
  refine W.last C.1.1 C.1.2.1 h2 (lq_ty_at C.2.2.1.1 (t := 2) rfl n (fun j => .long (N a j))) (fun q => by cases q) ?_ rfl rfl hd fun H1 e1 e2 e3 => ?_
  · show ¬ (nI j < 0 ∨ (arrV _ _ _).slots.size ≤ _)
    rw [arrV_size]
    exact vp_in_nI hj hn
  · refine k p e R s m args below meth c H1 _ cells slots ls ⟨C.1, C.2.1, C.2.2.1, ⟨C.2.2.2.1.1.upd e2 e3 ha (fun _ _ => rfl) (fun _ _ => rfl) (fun b hb => lq_up_n N j v hb) (fun c9 h9 => ?_), C.2.2.2.1.2.put e2 e3 ha⟩, C.2.2.2.2.1, C.2.2.2.2.2⟩
    cases hS.symm.trans h9
    show H1[a]? = some (arrV (lq_c G 2) n (fun q => .long (lq_up N a j v a q)))
    rw [e1, nI_clamp (by omega)]
    refine congrArg some (Eq.trans (arrV_store (lq_c G 2) n j (fun q => .long (N a q)) (.long v)) (congrArg (arrV (lq_c G 2) n) (funext fun q => ?_)))
    rw [lq_up_a]
    by_cases hq : q = j
    · simp [updV, hq]
    · simp [updV, hq]
end LQ2
