/-! METHODS WITH HANDLERS -/
def LMH (G : lq_G) (Y : lq_Y) (d kc ks : Nat) (args : List Value) (z : Nat) (S : lq_S) (M : lq_M) (N : lq_N) (Q : lq_P) (X : lq_E) : Prop :=
  vx_Met (lq_l G) Y.1 (.codeWith Y.1 Y.2.1 Y.2.2.1 Y.2.2.2.1 Y.2.2.2.2 :: lq_W) (lq_room d kc ks) (fun v U => v = args.toArray ∧ lq_K G U ∧ lq_H G U.heap z S M N) (lq_Qc G Q) (lq_XC G X) kc ks (fun q => lq_b G ≤ q)
theorem lq_rmH {d d' x kc' ks' L : Nat} (h : 40 * d + 1000 ≤ L) (hd : d' + 1 ≤ d) (hm : x ≤ 20) : 8 + (x + 11) + (lq_room d' kc' ks').locals ≤ L := by
  show 8 + (x + 11) + (40 * d' + 1000) ≤ L
  have h2 : 40 * (d' + 1) ≤ 40 * d := Nat.mul_le_mul_left 40 hd
  rw [Nat.mul_succ] at h2
  have e1 : 8 + (x + 11) ≤ 40 := Nat.le_trans (Nat.add_le_add_left (Nat.add_le_add_right hm 11) 8) (by decide)
  refine Nat.le_trans (Nat.add_le_add_right e1 _) (Nat.le_trans ?_ h)
  rw [← Nat.add_assoc, Nat.add_comm 40]
  exact Nat.add_le_add_right h2 1000
section LQH
variable {G : lq_G} {Y : lq_Y} {d kc ks z : Nat} {S : lq_S} {M : lq_M} {N : lq_N} {Q : lq_P} {X : lq_E} {pc : Nat} {lv : List (Option Value)} {st : List Value}
theorem LMH.of {args : List Value} (hp : plainName Y.1.cls = true) (lv : List (Option Value)) (hl : lq_pr lv 0 = lv_args 0 args) (hn : (lg_sl args).length ≤ Y.2.2.1) (body : LW G Y d kc ks Q X z S M N 0 lv []) : LMH G Y d kc ks args z S M N Q X := by
  refine vx_ofWH (cc := Y.2.1) (maxL := Y.2.2.1) (ret := Y.2.2.2.1) (hh := Y.2.2.2.2) hp rfl ?_
  intro p e s m a9 below meth c s₁ B hml hP
  obtain ⟨rfl, hK, hH⟩ := hP
  rw [lg_entry_eq]
  have hpre := atoms_spec (ws := Cond.codeWith Y.1 Y.2.1 Y.2.2.1 Y.2.2.2.1 Y.2.2.2.2 :: lq_W) B.pre
  have hb : lq_b G ≤ s.heap.size := by have := hH.1; have := hH.2.1; omega
  refine body p e (lq_room d kc ks) s m args.toArray below meth c s.heap [] 0 0 _ ⟨⟨B.exec, B.bytes, hml, findClass_of_methodNamed B.named, fun w hw => hpre w (List.mem_cons_of_mem _ hw)⟩, ⟨B.returns, B.notSynchronized, (name_of_methodNamed B.named B.method).1, vx_table (x := Y.1) B (hpre _ List.mem_cons_self)⟩, ⟨hK, hb⟩, ⟨hH, va_S.rf⟩, ⟨Nat.le_of_eq (Nat.zero_add _), Nat.le_of_eq (Nat.zero_add _), Nat.le_refl _, Nat.le_refl _⟩, ?_⟩
  rw [hl]
  exact lv_entry args hn
def lq_csH (own : String) (idx : Nat) (y : lq_Y) (n : Nat) : Prop := Cond.methodLink own idx y.1 ∈ lq_W ∧ Cond.initialized y.1.cls ∈ lq_W ∧ Cond.codeWith y.1 y.2.1 y.2.2.1 y.2.2.2.1 y.2.2.2.2 ∈ lq_W ∧ (y.1.cls ≠ "java/lang/invoke/MethodHandle" ∧ y.1.cls ≠ "java/lang/invoke/VarHandle" ∧ (parseMethodDescriptor y.1.desc).map (fun d => d.parameters.length) = some n) ∧ Cond.static y.1 ∈ lq_W
theorem lq_callSH {y : lq_Y} {d' kc' ks' n idx : Nat} {Q' : lq_P} {X' : lq_E} {As rest : List Value} (hM : LMH G y d' kc' ks' As z S M N Q' X') (hc : lq_csH Y.1.cls idx y n) (hd : decode Y.2.1 pc = .ok (.invokestatic idx, 3)) (hn : As.length = n) (hst : st = As.reverse ++ rest) (hw : (rest.map fun v => v.category).sum ≤ 8) (hdd : d' + 1 ≤ d) (hm : y.2.2.1 ≤ 20) (hk : kc' ≤ kc) (hk2 : ks' ≤ ks) (hT : Y.2.2.2.2 = [])
    (kx : ∀ E z S M N, X' E z S M N → X E z S M N) (k : ∀ r z S M N, Q' r z S M N → LW G Y d (kc - kc') (ks - ks') Q X z S M N (pc + 3) lv (r.toList ++ rest)) : LW G Y d kc ks Q X z S M N pc lv st := by
  intro p e R s m args below meth c H locs cells slots ls C
  have hp : PreS s H (fun v U => v = As.toArray ∧ lq_K G U ∧ lq_H G U.heap z S M N) As := ⟨fun a U g mk h => ⟨h.1, h.2.1.calling, h.2.2⟩, fun U hU hW => ⟨rfl, C.2.2.1.1.moved hW, by rw [hU]; exact C.2.2.2.1.1⟩⟩
  have hr1 := C.2.2.2.2.1.2.2.1
  have hr2 := C.2.2.2.2.1.2.2.2
  have q1 : (lq_room d' kc' ks').frames + 1 ≤ R.frames := by simp only [lq_room]; omega
  have q2 : 8 + (y.2.2.1 + 11) + (lq_room d' kc' ks').locals ≤ R.locals := lq_rmH hr2 hdd hm
  have cw : vx_CSW R s args Y.1.cls idx y.1 y.2.1 y.2.2.1 y.2.2.2.1 y.2.2.2.2 (.codeWith y.1 y.2.1 y.2.2.1 y.2.2.2.1 y.2.2.2.2 :: lq_W) (lq_room d' kc' ks') kc' ks' n := vx_cwSW (ws' := lq_W) n C.1.2.2.2.2 (lq_goodIn fun w hw => by
    unfold va_wsS at hw
    rcases List.mem_append.mp hw with h | h
    · simp only [List.mem_cons, List.not_mem_nil, or_false] at h
      rcases h with h | h | h
      · rw [h]; exact hc.1
      · rw [h]; exact hc.2.2.2.2
      · rw [h]; exact hc.2.1
    · rcases List.mem_cons.mp h with h | h
      · rw [h]; exact hc.2.2.1
      · exact h) rfl rfl rfl hc.2.2.2.1 ⟨q1, q2⟩
  refine lq_back hT hk hk2 C (vx_runSX (g := F0 m pc ls st) C.1 hM cw hp rfl hn C.2.2.2.2.2.1 hst ?_ hd ⟨by have := C.2.2.2.2.1.1; omega, by have := C.2.2.2.2.1.2.1; omega⟩) kx k
  show 2 * 0 + (rest.map fun v => v.category).sum ≤ 8
  omega
/-- the class E thrown at pc is caught here, and what is behind holds -/
def lq_ct (G : lq_G) (Y : lq_Y) (pc : Nat) (E : String) (kk : Nat → Prop) : Prop := ∃ (pre : List ExceptionTableEntry) (x : ExceptionTableEntry) (suf : List ExceptionTableEntry), tableOf Y.2.2.2.2 = pre ++ x :: suf ∧ (∀ y ∈ pre, covers y pc = false ∨ (y.catchType ≠ 0 ∧ ∃ nm : String, Cond.classLink Y.1.cls y.catchType nm ∈ lq_W ∧ va_Nc E nm (lq_u G))) ∧ covers x pc = true ∧ x.catchType ≠ 0 ∧ Cond.classLink Y.1.cls x.catchType E ∈ lq_W ∧ (∃ ci : Nat, lq_cl[ci]? = some (E, lq_T0, 0)) ∧ kk x.handlerPc
theorem lq_backH {kc' ks' : Nat} {Q' : lq_P} {X' : lq_E} {a9 : Array Value} {p : Program} {e : Env} {R : Room} {s : State} {m : MethodId} {args : Array Value} {below : List Frame} {meth : Method} {c : Code} {H : Heap} {locs : List Loc} {cells slots : Nat} {ls : Array Slot} {rest : List Value}
    (hk : kc' ≤ kc) (hk2 : ks' ≤ ks) (C : lq_cx G Y d kc ks z S M N lv p R s m args meth c H locs cells slots ls)
    (hr : vx_Run p (lq_l G) e R s m args below meth c H locs cells slots kc' ks' (F0 m pc ls st) rest (lq_Qc G Q' a9) (lq_XC G X') (fun q => lq_b G ≤ q))
    (kx : ∀ E z S M N, X' E z S M N → lq_ct G Y pc E (fun h => ∀ q, LW G Y d (kc - kc') (ks - ks') Q X z S M N h lv [.ref q])) (k : ∀ r z S M N, Q' r z S M N → LW G Y d (kc - kc') (ks - ks') Q X z S M N (pc + 3) lv (r.toList ++ rest)) :
    W p (lq_l G) e R s m args below meth c H locs cells slots (vx_MQ below (lq_Qc G Q) (lq_XC G X) args s R.cells R.slots (fun q => lq_b G ≤ q)) (F0 m pc ls st) := by
  intro T hT0 X0
  obtain ⟨hA, hB, hK, hH, hR, hL⟩ := C
  have keep : ∀ {st₀ t T' : State} {L : List Loc} {z' : Nat} {S' : lq_S} {M' : lq_M} {N' : lq_N}, st₀.heap = H → T'.heap = t.heap → (∀ q ∈ L, lq_b G ≤ q.base) → st₀.heap.size ≤ t.heap.size → lq_H G t.heap z' S' M' N' → va_S (fun q => lq_b G ≤ q) s.heap T'.heap (locs ++ L) := by
    intro st₀ t T' L z' S' M' N' h0 e1 hL hz hH'
    refine ⟨by rw [e1]; rw [h0] at hz; exact Nat.le_trans hH.2.1 hz, fun q h1 h2 => ?_, fun l hl => ?_⟩
    · have hq : q < lq_b G := Nat.not_le.mp h2
      rw [e1, hH'.2.2.1 q hq, ← hH.1.2.2.1 q hq]
      exact hH.2.2.1 q h1 h2
    · rcases List.mem_append.mp hl with h | h
      · exact hH.2.2.2 l h
      · exact hL l h
  rcases hr T hT0 X0 with ⟨v, st₀, t, T', L, h0, X', hL', e1, e2, ⟨hz, r, z', S', M', N', ho, hq, hH'⟩, gs⟩ | ⟨q, st₀, t, T', L, E, ce, h0, X', hL', e1, e2, ⟨hz, z', S', M', N', hx, hH'⟩, hce, hcv, hcl, gs⟩
  · cases ho
    have hS9 := keep h0 e1 hL' hz hH'
    obtain ⟨t2, a1, b1⟩ := k _ _ _ _ _ hq p e R s m args below meth c T'.heap (locs ++ L) (cells + kc') (slots + ks') ls ⟨hA, hB, hK, ⟨by rw [e1]; exact hH', hS9⟩, ⟨by omega, by omega, hR.2.2⟩, hL⟩ T' rfl X'
    exact ⟨t2, gs t2 a1, b1⟩
  · have hS9 := keep h0 e1 hL' hz hH'
    obtain ⟨pre, x, suf, c1, c2, c3, c4, c5, ⟨ci, c6⟩, c7⟩ := kx E z' S' M' N' hx
    have w9 := vx_catch (p := p) (l := lq_l G) (e := e) (R := R) (s := s) (m := m) (args := args) (below := below) (meth := meth) (c := c) (H := T'.heap) (locs := locs ++ L) (cells := cells + kc') (slots := slots + ks') (ls := ls) (rest := rest) (Q := vx_MQ below (lq_Qc G Q) (lq_XC G X) args s R.cells R.slots (fun q => lq_b G ≤ q)) (pc := pc) (own := Y.1.cls) (E := E) (ce := ce) (q := q) (name := E) hA.2.2.2.1 pre x suf (by rw [hB.2.2.2]; exact c1)
      (fun y hy => (c2 y hy).imp id (fun ⟨a, nm, h1, h2⟩ => ⟨a, nm, hA.2.2.2.2 _ h1, h2.moved hK.1.2.1⟩)) c3 c4 (hA.2.2.2.2 _ c5) (lq_castable hK.1 c6) (by rw [e1]; exact hce) hcv hcl
      (c7 q p e R s m args below meth c T'.heap (locs ++ L) (cells + kc') (slots + ks') ls ⟨hA, hB, hK, ⟨by rw [e1]; exact hH', hS9⟩, ⟨by omega, by omega, hR.2.2⟩, hL⟩)
    obtain ⟨t2, a1, b1⟩ := w9 T' rfl X'
    exact ⟨t2, gs.trans a1, b1⟩
theorem lq_callVH {y : lq_Y} {d' kc' ks' n idx b ci : Nat} {Q' : lq_P} {X' : lq_E} {As rest : List Value} {fl : List (Option (Option Nat))} (hM : LM G y d' kc' ks' (.ref b :: As) z S M N Q' X') (hc : lq_cv Y.1.cls idx y n) (hd : decode Y.2.1 pc = .ok (.invokevirtual idx, 3)) (hS : S b = some (.inl (ci, fl))) (hcl : (lq_cl[ci]?).map (fun q => q.1) = some y.1.cls) (hn : As.length = n) (hst : st = As.reverse ++ .ref b :: rest) (hw : (rest.map fun v => v.category).sum ≤ 8) (hdd : d' + 1 ≤ d) (hm : y.2.2.1 ≤ 20) (hk : kc' ≤ kc) (hk2 : ks' ≤ ks)
    (kx : ∀ E z S M N, X' E z S M N → lq_ct G Y pc E (fun h => ∀ q, LW G Y d (kc - kc') (ks - ks') Q X z S M N h lv [.ref q])) (k : ∀ r z S M N, Q' r z S M N → LW G Y d (kc - kc') (ks - ks') Q X z S M N (pc + 3) lv (r.toList ++ rest)) : LW G Y d kc ks Q X z S M N pc lv st := by
  intro p e R s m args below meth c H locs cells slots ls C
  have cw : CallW R s args Y.1.cls y.1.cls idx y.1 y.2.1 y.2.2.1 y.2.2.2.1 (.code y.1 y.2.1 y.2.2.1 y.2.2.2.1 :: lq_W) (lq_room d' kc' ks') kc' ks' n := ⟨lq_callB hc.1 C.1.2.2.2.2 hdd hm C.2.2.2.2.1.2.2, C.1.2.2.2.2 _ hc.2.1, C.1.2.2.2.2 _ hc.2.2⟩
  refine lq_backH hk hk2 C (vx_runV (g := F0 m pc ls st) C.1 hM cw (lq_preV (n := n) C hS hcl) rfl hn C.2.2.2.2.2.1 hst ?_ hd ⟨by have := C.2.2.2.2.1.1; omega, by have := C.2.2.2.2.1.2.1; omega⟩) kx k
  show 2 * 0 + (rest.map fun v => v.category).sum ≤ 8
  omega
end LQH
/-- classes that one of the law's handlers passes by -/
def q_NC (G : lq_G) : Prop := (va_Nc eIA eIO (lq_u G) ∧ va_Nc eIA eNS (lq_u G)) ∧ (va_Nc eNS eIO (lq_u G) ∧ va_Nc eIO eIA (lq_u G)) ∧ va_Nc eIS eIO (lq_u G) ∧ va_Nc eIS eNS (lq_u G)
theorem q_cl13 : Cond.classLink RL 13 eIA ∈ lq_W := lq_in (by decide +kernel) (by decide +kernel)
theorem q_cl19 : Cond.classLink RL 19 eIO ∈ lq_W := lq_in (by decide +kernel) (by decide +kernel)
theorem q_cl25 : Cond.classLink RL 25 eNS ∈ lq_W := lq_in (by decide +kernel) (by decide +kernel)
theorem q_cl67 : Cond.classLink RL 67 eIS ∈ lq_W := lq_in (by decide +kernel) (by decide +kernel)
theorem q_ca13 : ∃ ci : Nat, lq_cl[ci]? = some (eIA, lq_T0, 0) := ⟨10, rfl⟩
theorem q_ca19 : ∃ ci : Nat, lq_cl[ci]? = some (eIO, lq_T0, 0) := ⟨11, rfl⟩
theorem q_ca25 : ∃ ci : Nat, lq_cl[ci]? = some (eNS, lq_T0, 0) := ⟨12, rfl⟩
theorem q_ca67 : ∃ ci : Nat, lq_cl[ci]? = some (eIS, lq_T0, 0) := ⟨13, rfl⟩
