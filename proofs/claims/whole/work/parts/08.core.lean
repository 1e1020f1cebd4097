section LQ4
variable {G : lq_G} {Y : lq_Y} {d kc ks z : Nat} {S : lq_S} {M : lq_M} {N : lq_N} {Q : lq_P} {X : lq_E} {pc : Nat} {lv : List (Option Value)} {st : List Value}
/-! CALLS -/
theorem lq_W_good : ∀ w ∈ lq_W, goodWord w = true := fun w h => (List.mem_filter.mp h).2
theorem lq_goodIn {ws : List Cond} (h : ∀ w ∈ ws, w ∈ lq_W) : GoodIn lq_W ws := fun w hw => ⟨h w hw, good_of_word (lq_W_good w (h w hw))⟩
def lq_cb (own : String) (idx : Nat) (y : lq_Y) (n : Nat) : Prop := Cond.methodLink own idx y.1 ∈ lq_W ∧ Cond.initialized y.1.cls ∈ lq_W ∧ Cond.code y.1 y.2.1 y.2.2.1 y.2.2.2.1 ∈ lq_W ∧ y.1.cls ≠ "java/lang/invoke/MethodHandle" ∧ y.1.cls ≠ "java/lang/invoke/VarHandle" ∧ (parseMethodDescriptor y.1.desc).map (fun d => d.parameters.length) = some n
def lq_cv (own : String) (idx : Nat) (y : lq_Y) (n : Nat) : Prop := lq_cb own idx y n ∧ Cond.instanceMethod y.1 ∈ lq_W ∧ Cond.selects y.1.cls y.1 y.1 ∈ lq_W
def lq_cs (own : String) (idx : Nat) (y : lq_Y) (n : Nat) : Prop := lq_cb own idx y n ∧ Cond.static y.1 ∈ lq_W
def lq_ci (own : String) (idx : Nat) (y : lq_Y) (n : Nat) : Prop := lq_cb own idx y n ∧ y.1.name = "<init>" ∧ Cond.instanceMethod y.1 ∈ lq_W ∧ y.2.2.2.1 = none
theorem lq_callB {own : String} {idx n d' kc' ks' : Nat} {y : lq_Y} {s : State} {args : Array Value} {R : Room} (h : lq_cb own idx y n) (ht : ∀ w ∈ lq_W, w.before args s = true) (hd : d' + 1 ≤ d) (hm : y.2.2.1 ≤ 20) (hR : d + 20 ≤ R.frames ∧ 40 * d + 1000 ≤ R.locals) :
    CallB R s args own idx y.1 y.2.1 y.2.2.1 y.2.2.2.1 (.code y.1 y.2.1 y.2.2.1 y.2.2.2.1 :: lq_W) (lq_room d' kc' ks') kc' ks' n := by
  obtain ⟨h1, h2, h3, h4, h5, h6⟩ := h
  refine callB_of n ht (lq_goodIn fun w hw => ?_) rfl rfl rfl (ht _ h2) (ht _ h1) ⟨h4, h5, h6⟩ ⟨?_, ?_⟩
  · rcases List.mem_cons.mp hw with e | e
    · rw [e]; exact h3
    · exact e
  · show d' + 20 + 1 ≤ R.frames
    omega
  · show 8 + (y.2.2.1 + 11) + (40 * d' + 1000) ≤ R.locals
    omega
/-- what comes behind a call: the method goes on, or the thrown goes on out -/
theorem lq_back {kc' ks' : Nat} {Q' : lq_P} {X' : lq_E} {a9 : Array Value} {p : Program} {e : Env} {R : Room} {s : State} {m : MethodId} {args : Array Value} {below : List Frame} {meth : Method} {c : Code} {H : Heap} {locs : List Loc} {cells slots : Nat} {ls : Array Slot} {rest : List Value}
    (hT : Y.2.2.2.2 = []) (hk : kc' ≤ kc) (hk2 : ks' ≤ ks) (C : lq_cx G Y d kc ks z S M N lv p R s m args meth c H locs cells slots ls)
    (hr : vx_Run p (lq_l G) e R s m args below meth c H locs cells slots kc' ks' (F0 m pc ls st) rest (lq_Qc G Q' a9) (lq_XC G X') (fun q => lq_b G ≤ q))
    (kx : ∀ E z S M N, X' E z S M N → X E z S M N) (k : ∀ r z S M N, Q' r z S M N → LW G Y d (kc - kc') (ks - ks') Q X z S M N (pc + 3) lv (r.toList ++ rest)) :
    W p (lq_l G) e R s m args below meth c H locs cells slots (vx_MQ below (lq_Qc G Q) (lq_XC G X) args s R.cells R.slots (fun q => lq_b G ≤ q)) (F0 m pc ls st) := by
  intro T hT0 X0
  obtain ⟨hA, hB, hK, hH, hR, hL⟩ := C
  have keep : ∀ {st₀ t T' : State} {L : List Loc} {z' : Nat} {S' : lq_S} {M' : lq_M} {N' : lq_N}, st₀.heap = H → T'.heap = t.heap → (∀ q ∈ L, lq_b G ≤ q.base) → st₀.heap.size ≤ t.heap.size → lq_H G t.heap z' S' M' N' → va_S (fun q => lq_b G ≤ q) s.heap T'.heap (locs ++ L) := by
    intro st₀ t T' L z' S' M' N' h0 e1 hL hz hH'
    refine ⟨by rw [e1]; rw [h0] at hz; exact Nat.le_trans hH.2.1 hz, fun q h1 h2 => ?_, fun l hl => ?_⟩
    · have hq : q < lq_b G := Nat.not_le.mp h2
      rw [e1, hH'.2.2.1 q hq, ← hH.1.2.2.1 q hq]
      exact hH.2.2.1 q h1 h2
    · rcases List.mem_append.mp hl with h | h
      · exact hH.2.2.2 l h
      · exact hL l h
  rcases hr T hT0 X0 with ⟨v, st₀, t, T', L, h0, X', hL', e1, e2, ⟨hz, r, z', S', M', N', ho, hq, hH'⟩, gs⟩ | ⟨q, st₀, t, T', L, E, ce, h0, X', hL', e1, e2, ⟨hz, z', S', M', N', hx, hH'⟩, hce, hcv, hcl, gs⟩
  · cases ho
    have hS9 := keep h0 e1 hL' hz hH'
    obtain ⟨t2, a1, b1⟩ := k _ _ _ _ _ hq p e R s m args below meth c T'.heap (locs ++ L) (cells + kc') (slots + ks') ls ⟨hA, hB, hK, ⟨by rw [e1]; exact hH', hS9⟩, ⟨by omega, by omega, hR.2.2⟩, hL⟩ T' rfl X'
    exact ⟨t2, gs t2 a1, b1⟩
  · have hS9 := keep h0 e1 hL' hz hH'
    have hout : ∀ x ∈ c.exceptionTable.toList, covers x pc = false := by
      rw [hB.2.2.2, hT]
      intro x hx
      cases hx
    have w9 := vx_out (p := p) (l := lq_l G) (e := e) (R := R) (s := s) (m := m) (args := args) (below := below) (meth := meth) (c := c) (H := T'.heap) (locs := locs ++ L) (cells := cells + kc') (slots := slots + ks') (ls := ls) (rest := rest) (Qc := lq_Qc G Q) (XC := lq_XC G X) (mc := R.cells) (ms := R.slots) (free := fun q => lq_b G ≤ q) (pc := pc) (E := E) (ce := ce) (q := q) hout hB.2.1 (by rw [e1]; exact hce) hcv hcl
      (fun t9 ht9 _ => ⟨by rw [ht9]; exact hS9.1, z', S', M', N', kx _ _ _ _ _ hx, by rw [ht9, e1]; exact hH'⟩) (fun l hl => hS9.2.2 l hl) (by omega) (by omega)
    obtain ⟨t2, a1, b1⟩ := w9 T' rfl X'
    exact ⟨t2, gs.trans a1, b1⟩
theorem lq_preV {ci b n : Nat} {fl : List (Option (Option Nat))} {cl : String} {p : Program} {R : Room} {s : State} {m : MethodId} {args : Array Value} {meth : Method} {c : Code} {H : Heap} {locs : List Loc} {cells slots : Nat} {ls : Array Slot} {As : List Value}
    (C : lq_cx G Y d kc ks z S M N lv p R s m args meth c H locs cells slots ls) (hS : S b = some (.inl (ci, fl))) (hcl : (lq_cl[ci]?).map (fun q => q.1) = some cl) :
    PreV s H cl b (fun v U => v = (Value.ref b :: As).toArray ∧ lq_K G U ∧ lq_H G U.heap z S M N) As := by
  obtain ⟨-, h2⟩ := C.2.2.2.1.1.2.2.2 b _ hS
  obtain ⟨r, h1, cell, q1, q2, q3, q4⟩ := h2
  refine ⟨fun a U g mk h => ⟨h.1, h.2.1.calling, h.2.2⟩, ⟨cell, q1, by rw [q3]; rfl, ?_⟩, fun U hU hW => ⟨rfl, C.2.2.1.1.moved hW, by rw [hU]; exact C.2.2.2.1.1⟩⟩
  rw [q2]
  have h9 := (C.2.2.1.1.1.1 ci r h1).2.1
  have h8 : r.1 = cl := by
    have h7 : (lq_cl[ci]?).map (fun q => q.1) = some r.1 := by rw [show lq_cl[ci]? = some r from h1]; rfl
    exact Option.some.inj (h7.symm.trans hcl)
  rw [← h8]
  exact h9
theorem lq_callV {y : lq_Y} {d' kc' ks' n idx b ci : Nat} {Q' : lq_P} {X' : lq_E} {As rest : List Value} {fl : List (Option (Option Nat))} (hM : LM G y d' kc' ks' (.ref b :: As) z S M N Q' X') (hc : lq_cv Y.1.cls idx y n) (hd : decode Y.2.1 pc = .ok (.invokevirtual idx, 3)) (hS : S b = some (.inl (ci, fl))) (hcl : (lq_cl[ci]?).map (fun q => q.1) = some y.1.cls) (hn : As.length = n) (hst : st = As.reverse ++ .ref b :: rest) (hw : (rest.map fun v => v.category).sum ≤ 8) (hdd : d' + 1 ≤ d) (hm : y.2.2.1 ≤ 20) (hk : kc' ≤ kc) (hk2 : ks' ≤ ks) (hT : Y.2.2.2.2 = [])
    (kx : ∀ E z S M N, X' E z S M N → X E z S M N) (k : ∀ r z S M N, Q' r z S M N → LW G Y d (kc - kc') (ks - ks') Q X z S M N (pc + 3) lv (r.toList ++ rest)) : LW G Y d kc ks Q X z S M N pc lv st := by
  intro p e R s m args below meth c H locs cells slots ls C
  have cw : CallW R s args Y.1.cls y.1.cls idx y.1 y.2.1 y.2.2.1 y.2.2.2.1 (.code y.1 y.2.1 y.2.2.1 y.2.2.2.1 :: lq_W) (lq_room d' kc' ks') kc' ks' n := ⟨lq_callB hc.1 C.1.2.2.2.2 hdd hm C.2.2.2.2.1.2.2, C.1.2.2.2.2 _ hc.2.1, C.1.2.2.2.2 _ hc.2.2⟩
  refine lq_back hT hk hk2 C (vx_runV (g := F0 m pc ls st) C.1 hM cw (lq_preV (n := n) C hS hcl) rfl hn C.2.2.2.2.2.1 hst ?_ hd ⟨by have := C.2.2.2.2.1.1; omega, by have := C.2.2.2.2.1.2.1; omega⟩) kx k
  show 2 * 0 + (rest.map fun v => v.category).sum ≤ 8
  omega
theorem lq_callS {y : lq_Y} {d' kc' ks' n idx : Nat} {Q' : lq_P} {X' : lq_E} {As rest : List Value} (hM : LM G y d' kc' ks' As z S M N Q' X') (hc : lq_cs Y.1.cls idx y n) (hd : decode Y.2.1 pc = .ok (.invokestatic idx, 3)) (hn : As.length = n) (hst : st = As.reverse ++ rest) (hw : (rest.map fun v => v.category).sum ≤ 8) (hdd : d' + 1 ≤ d) (hm : y.2.2.1 ≤ 20) (hk : kc' ≤ kc) (hk2 : ks' ≤ ks) (hT : Y.2.2.2.2 = [])
    (kx : ∀ E z S M N, X' E z S M N → X E z S M N) (k : ∀ r z S M N, Q' r z S M N → LW G Y d (kc - kc') (ks - ks') Q X z S M N (pc + 3) lv (r.toList ++ rest)) : LW G Y d kc ks Q X z S M N pc lv st := by
  intro p e R s m args below meth c H locs cells slots ls C
  have hp : PreS s H (fun v U => v = As.toArray ∧ lq_K G U ∧ lq_H G U.heap z S M N) As := ⟨fun a U g mk h => ⟨h.1, h.2.1.calling, h.2.2⟩, fun U hU hW => ⟨rfl, C.2.2.1.1.moved hW, by rw [hU]; exact C.2.2.2.1.1⟩⟩
  refine lq_back hT hk hk2 C (vx_runS (g := F0 m pc ls st) C.1 hM ⟨lq_callB hc.1 C.1.2.2.2.2 hdd hm C.2.2.2.2.1.2.2, C.1.2.2.2.2 _ hc.2⟩ hp rfl hn C.2.2.2.2.2.1 hst ?_ hd ⟨by have := C.2.2.2.2.1.1; omega, by have := C.2.2.2.2.1.2.1; omega⟩) kx k
  show 2 * 0 + (rest.map fun v => v.category).sum ≤ 8
  omega
theorem lq_callI {y : lq_Y} {d' kc' ks' n idx b : Nat} {Q' : lq_P} {X' : lq_E} {As rest : List Value} (hM : LM G y d' kc' ks' (.ref b :: As) z S M N Q' X') (hc : lq_ci Y.1.cls idx y n) (hd : decode Y.2.1 pc = .ok (.invokespecial idx, 3)) (hn : As.length = n) (hst : st = As.reverse ++ .ref b :: rest) (hw : (rest.map fun v => v.category).sum ≤ 8) (hdd : d' + 1 ≤ d) (hm : y.2.2.1 ≤ 20) (hk : kc' ≤ kc) (hk2 : ks' ≤ ks) (hT : Y.2.2.2.2 = [])
    (kx : ∀ E z S M N, X' E z S M N → X E z S M N) (k : ∀ r z S M N, Q' r z S M N → LW G Y d (kc - kc') (ks - ks') Q X z S M N (pc + 3) lv (r.toList ++ rest)) : LW G Y d kc ks Q X z S M N pc lv st := by
  intro p e R s m args below meth c H locs cells slots ls C
  have hp : PreS s H (fun v U => v = (Value.ref b :: As).toArray ∧ lq_K G U ∧ lq_H G U.heap z S M N) (.ref b :: As) := ⟨fun a U g mk h => ⟨h.1, h.2.1.calling, h.2.2⟩, fun U hU hW => ⟨rfl, C.2.2.1.1.moved hW, by rw [hU]; exact C.2.2.2.1.1⟩⟩
  have hcb := lq_callB (kc' := kc') (ks' := ks') hc.1 C.1.2.2.2.2 hdd hm C.2.2.2.2.1.2.2
  rw [hc.2.2.2] at hcb
  have hM2 := hM
  unfold LM at hM2
  rw [hc.2.2.2] at hM2
  refine lq_back hT hk hk2 C (vx_runI (g := F0 m pc ls st) C.1 hM2 ⟨hcb, hc.2.1, C.1.2.2.2.2 _ hc.2.2.1⟩ hp rfl hn C.2.2.2.2.2.1 hst ?_ hd ⟨by have := C.2.2.2.2.1.1; omega, by have := C.2.2.2.2.1.2.1; omega⟩) kx k
  show 2 * 0 + (rest.map fun v => v.category).sum ≤ 8
  omega
/-! THROWING -/
theorem lq_H.list {H : Heap} (h : lq_H G H z S M N) : ∃ ws : va_W, va_P (lq_D G) lq_cl ws H ∧ va_D (fun q => lq_b G ≤ q) ws ∧ ∀ (a : Nat) (c : lq_C), S a = some c → ∃ k : Nat, ws[k]? = some (a, lq_e G c (M a) (N a)) := by
  have hmem : ∀ (l : List Nat) (q : Nat × va_E), q ∈ l.filterMap (fun a => (S a).map fun c => (a, lq_e G c (M a) (N a))) → q.1 ∈ l ∧ ∃ c, S q.1 = some c ∧ q = (q.1, lq_e G c (M q.1) (N q.1)) := by
    intro l q hq
    obtain ⟨a, ha, hf⟩ := List.mem_filterMap.mp hq
    cases hSa : S a with
    | none => rw [hSa] at hf; simp at hf
    | some c =>
      rw [hSa] at hf
      simp at hf
      subst hf
      exact ⟨ha, c, hSa, rfl⟩
  have hnd : ∀ l : List Nat, l.Nodup → ∀ (i j : Nat) (x y : Nat × va_E), (l.filterMap (fun a => (S a).map fun c => (a, lq_e G c (M a) (N a))))[i]? = some x → (l.filterMap (fun a => (S a).map fun c => (a, lq_e G c (M a) (N a))))[j]? = some y → x.1 = y.1 → i = j := by
    intro l
    induction l with
    | nil => intro _ i j x y h1; simp at h1
    | cons b l ih =>
      intro hn i j x y h1 h2 hxy
      rw [List.nodup_cons] at hn
      rw [List.filterMap_cons] at h1 h2
      cases hSb : S b with
      | none =>
        rw [hSb] at h1 h2
        exact ih hn.2 i j x y h1 h2 hxy
      | some c =>
        rw [hSb] at h1 h2
        simp only [Option.map_some] at h1 h2
        cases i with
        | zero =>
          cases j with
          | zero => rfl
          | succ j =>
            simp at h1 h2
            have := (hmem l y (List.mem_of_getElem? h2)).1
            rw [← hxy, ← h1] at this
            exact absurd this hn.1
        | succ i =>
          cases j with
          | zero =>
            simp at h1 h2
            have := (hmem l x (List.mem_of_getElem? h1)).1
            rw [hxy, ← h2] at this
            exact absurd this hn.1
          | succ j =>
            simp at h1 h2
            rw [ih hn.2 i j x y h1 h2 hxy]
  refine ⟨(List.range z).filterMap (fun a => (S a).map fun c => (a, lq_e G c (M a) (N a))), fun k q hq => ?_, ⟨fun i j x y h1 h2 hxy => hnd _ List.nodup_range i j x y h1 h2 hxy, fun k q hq => ?_⟩, fun a c hS => ?_⟩
  · obtain ⟨-, c, hc, e⟩ := hmem _ q (List.mem_of_getElem? hq)
    rw [e]
    exact (h.2.2.2 _ c hc).2
  · obtain ⟨-, c, hc, e⟩ := hmem _ q (List.mem_of_getElem? hq)
    exact (h.2.2.2 _ c hc).1
  · exact List.getElem?_of_mem (List.mem_filterMap.mpr ⟨a, List.mem_range.mpr (h.lt hS), by rw [hS]; rfl⟩)
/-- new E("text"), thrown, and it leaves the method: nothing of ours has moved -/
theorem qw_throw {ik is ic ci : Nat} (j : Nat) {cls tx : String} {names : List String} (hok : (lq_cl[ci]?) = some (cls, lq_T0, 0)) (hT : Y.2.2.2.2 = []) (hcls : Bundle.fit cls = true) (hnames : ∀ n ∈ names, Bundle.fit n = true) (hnl : names.length ≤ 5)
    (hk : Cond.classLink Y.1.cls ik cls ∈ lq_W) (hini : Cond.initialized cls ∈ lq_W) (hstr : lq_strs[j]? = some (Y.1.cls, is, tx)) (hat : ∀ w ∈ vx_atS Y.1.cls ic cls names, w ∈ lq_W)
    (d0 : decode Y.2.1 pc = .ok (.new ik, 3)) (d3 : decode Y.2.1 (pc + 3) = .ok (.dup, 1)) (d4 : decode Y.2.1 (pc + 4) = .ok (.ldc is, 2)) (d6 : decode Y.2.1 (pc + 6) = .ok (.invokespecial ic, 3)) (d9 : decode Y.2.1 (pc + 9) = .ok (.athrow, 1))
    (hw : (st.map fun v => v.category).sum ≤ 8) (hkc : 1 ≤ kc) (hks : 6 ≤ ks) (hx : ∀ z', X cls z' S M N) : LW G Y d kc ks Q X z S M N pc lv st := by
  intro p e R s m args below meth c H locs cells slots ls C
  obtain ⟨ws, hP, hD, hin⟩ := C.2.2.2.1.1.list
  have hts := C.1.2.2.2.2
  have hagr : ∀ a : Nat, a < (lq_u G).heap.size → ¬ lq_b G ≤ a → s.heap[a]? = (lq_u G).heap[a]? := fun a h1 h2 => by
    rw [← C.2.2.2.1.1.2.2.1 a h1]
    exact (C.2.2.2.1.2.2.1 a (Nat.lt_of_lt_of_le h1 C.2.2.1.2) h2).symm
  have hZ : ∀ {C0 n0 d0 : String}, vx_Zq C0 n0 d0 (fun q => lq_b G ≤ q) (lq_u G) (lq_u G).heap → vx_Zq C0 n0 d0 (fun q => lq_b G ≤ q) s s.heap := fun h => vx_Zq.moved C.2.2.1.1.2.1 (h.kept hagr)
  have hgood : ∀ w ∈ lq_W, vx_ot w = true := fun w h => by unfold vx_ot; rw [lq_W_good w h]; exact Bool.or_true _
  have hR := C.2.2.2.2.1
  refine vx_makeS (Q := _) C.1.1 C.1.2.1 C.2.2.1.1.2.2.1.1 (own := Y.1.cls) (names := names) (ci := ci) (T0 := lq_T0) (A := fun q => lq_b G ≤ q) C.1.2.2.2.1 hcls hnames (hts _ hk) (hts _ hini) (C.2.2.1.1.2.2.2 j _ hstr) (fun w hw => hts w (hat w hw)) (fun w hw => ?_) (hZ C.2.2.1.1.2.2.1.2.1) (hZ C.2.2.1.1.2.2.1.2.2.1) C.2.2.2.1.2 (C.2.2.2.2.2.1.trans C.1.2.2.1.symm) d0 d3 d4 d6 C.2.2.1.1.1 hP hD (fun q hq => Nat.le_trans C.2.2.1.2 hq) hok ?_ ?_ ?_ ?_ (fun q H1 hP1 hD1 hS1 => ?_)
  · rcases List.mem_cons.mp hw with h | h
    · rw [h]; exact hgood _ hk
    · rcases List.mem_cons.mp h with h | h
      · rw [h]; exact hgood _ hini
      · exact hgood _ (hat w h)
  · omega
  · omega
  · omega
  · omega
  · obtain ⟨r, h1, cell, q1, q2, q3, q4⟩ := hP1 ws.length (q, .inr (ci, [])) (by simp)
    have hcl := (C.2.2.1.1.1.1 ci r h1).2.1
    rw [show r = (cls, lq_T0, 0) from Option.some.inj (h1.symm.trans hok)] at hcl
    have hH1 : lq_H G H1 H1.size S M N := by
      obtain ⟨g1, g2, g3, g4⟩ := C.2.2.2.1.1
      refine ⟨rfl, Nat.le_trans C.2.2.1.2 hS1.1, fun q0 hq0 => ?_, fun a c0 ha => ⟨(g4 a c0 ha).1, ?_⟩⟩
      · rw [hS1.2.1 q0 (Nat.lt_of_lt_of_le hq0 C.2.2.1.2) (Nat.not_le.mpr hq0)]
        exact hagr q0 hq0 (Nat.not_le.mpr hq0)
      · obtain ⟨k9, hk9⟩ := hin a c0 ha
        have hlt : k9 < ws.length := (List.getElem?_eq_some_iff.mp hk9).1
        exact hP1 k9 _ (by rw [List.getElem?_append_left hlt]; exact hk9)
    refine vx_athrow C.1.1 C.1.2.1 d9 (vx_out (E := cls) (ce := cell) ?_ C.2.1.2.1 q1 q3 (by rw [q2]; exact hcl) (fun t9 ht9 _ => ⟨by rw [ht9]; exact hS1.1, H1.size, S, M, N, hx _, by rw [ht9]; exact hH1⟩) (fun l hl => hS1.2.2 l hl) (by omega) (by omega))
    rw [C.2.1.2.2.2, hT]
    intro x hx
    cases hx
end LQ4
