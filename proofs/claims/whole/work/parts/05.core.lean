/-! THE LITE HEAP: the shape of each cell (S), what its ints hold as numbers (M), what its longs hold (N); all read relative to the law's first state. -/
def lq_W : List Cond := lw_tbl.filter goodWord
theorem lq_in {w : Cond} (h : w ∈ lw_tbl) (g : goodWord w = true) : w ∈ lq_W := List.mem_filter.mpr ⟨h, g⟩
/-- launch, the law's first state, class numbers and slots, array classes, the addresses of the string constants and of their bytes -/
abbrev lq_G : Type := Launch × State × va_G × (Nat → ClassId) × (Nat → Nat) × (Nat → Nat)
abbrev lq_l (G : lq_G) : Launch := G.1
abbrev lq_u (G : lq_G) : State := G.2.1
abbrev lq_D (G : lq_G) : va_G := G.2.2.1
abbrev lq_c (G : lq_G) : Nat → ClassId := G.2.2.2.1
abbrev lq_k (G : lq_G) : Nat → Nat := G.2.2.2.2.1
abbrev lq_v (G : lq_G) : Nat → Nat := G.2.2.2.2.2
abbrev lq_b (G : lq_G) : Nat := (lq_u G).heap.size
def lq_T0 : u_T := fun _ => ("", "", "", false)
abbrev lq_cl : List vw_C := vwCl ++ [("java/lang/IllegalArgumentException", lq_T0, 0), ("java/lang/IndexOutOfBoundsException", lq_T0, 0), ("java/util/NoSuchElementException", lq_T0, 0), ("java/lang/IllegalStateException", lq_T0, 0)]
abbrev lq_ty (G : lq_G) : List (ClassId × FieldType) := [(lq_c G 0, .int), (lq_c G 1, .byte), (lq_c G 2, .long), (lq_c G 3, .array .int), (lq_c G 4, .object "AdBreaks$AdBreak"), (lq_c G 5, .object "AdBreaks$Plan")]
abbrev lq_C : Type := (Nat × List (Option (Option Nat))) ⊕ (Nat × Nat) ⊕ (Nat × Nat × (Nat → Option Nat))
def lq_fs : List (Option (Option Nat)) → Nat → (Nat → Nat) → List Value
  | [], _, _ => []
  | none :: t, k, m => .int (nI (m k)) :: lq_fs t (k + 1) m
  | some r :: t, k, m => va_rf r :: lq_fs t (k + 1) m
def lq_e (G : lq_G) (c : lq_C) (m : Nat → Nat) (n : Nat → Int64) : va_E := match c with
  | .inl o => .inr (o.1, lq_fs o.2 0 m)
  | .inr (.inl (0, k)) => .inl (lq_c G 0, k, .inl fun j => nI (m j))
  | .inr (.inl (2, k)) => .inl (lq_c G 2, k, .inr (.inl n))
  | .inr (.inl (_, k)) => .inl (lq_c G 1, k, .inl fun j => sb_b (m j))
  | .inr (.inr (t, k, f)) => .inl (lq_c G t, k, .inr (.inr (.inr (.inr f))))
abbrev lq_S : Type := Nat → Option lq_C
abbrev lq_M : Type := Nat → Nat → Nat
abbrev lq_N : Type := Nat → Nat → Int64
def lq_H (G : lq_G) (H : Heap) (z : Nat) (S : lq_S) (M : lq_M) (N : lq_N) : Prop :=
  H.size = z ∧ lq_b G ≤ z ∧ (∀ q : Nat, q < lq_b G → H[q]? = (lq_u G).heap[q]?) ∧ ∀ (a : Nat) (c : lq_C), S a = some c → lq_b G ≤ a ∧ va_at (lq_D G) lq_cl (a, lq_e G c (M a) (N a)) H
def lq_strs : List (String × Nat × String) := [("AdBreaks", 54, "length"), ("AdBreaks", 199, "place"), ("AdBreaks", 227, "not open, or a ban would be broken"), ("AdBreaks", 236, "no break is open"), ("AdBreaks", 238, "not open"), ("AdBreaks", 258, "no such break"), ("AdBreaks", 260, "no such sponsor"), ("AdBreaks", 264, "no such spot"), ("AdBreaks", 267, "out of range"), ("AdBreaks$SetupReader", 41, "radio"), ("AdBreaks$SetupReader", 58, "break"), ("AdBreaks$SetupReader", 66, "sponsor"), ("AdBreaks$SetupReader", 71, "ban"), ("AdBreaks$SetupReader", 76, "price"), ("AdBreaks$SetupReader", 143, "audience"), ("AdBreaks$SetupReader", 145, "hour"), ("AdBreaks$SetupReader", 147, "seconds"), ("AdBreaks$SetupReader", 149, "used"), ("AdBreaks$SetupReader", 151, "spots"), ("AdBreaksModel", 113, "audience"), ("AdBreaksModel", 119, "hour"), ("AdBreaksModel", 121, "seconds"), ("AdBreaksModel", 123, "used"), ("AdBreaksModel", 125, "spots"), ("AdBreaksModel", 146, "break"), ("AdBreaksModel", 151, "sponsor"), ("AdBreaksModel", 156, "ban"), ("AdBreaksModel", 161, "price"), ("AdBreaksModel", 170, "radio")]
def lq_bys : List (List Int32) := [[108, 101, 110, 103, 116, 104], [112, 108, 97, 99, 101], [110, 111, 116, 32, 111, 112, 101, 110, 44, 32, 111, 114, 32, 97, 32, 98, 97, 110, 32, 119, 111, 117, 108, 100, 32, 98, 101, 32, 98, 114, 111, 107, 101, 110], [110, 111, 32, 98, 114, 101, 97, 107, 32, 105, 115, 32, 111, 112, 101, 110], [110, 111, 116, 32, 111, 112, 101, 110], [110, 111, 32, 115, 117, 99, 104, 32, 98, 114, 101, 97, 107], [110, 111, 32, 115, 117, 99, 104, 32, 115, 112, 111, 110, 115, 111, 114], [110, 111, 32, 115, 117, 99, 104, 32, 115, 112, 111, 116], [111, 117, 116, 32, 111, 102, 32, 114, 97, 110, 103, 101], [114, 97, 100, 105, 111], [98, 114, 101, 97, 107], [115, 112, 111, 110, 115, 111, 114], [98, 97, 110], [112, 114, 105, 99, 101], [97, 117, 100, 105, 101, 110, 99, 101], [104, 111, 117, 114], [115, 101, 99, 111, 110, 100, 115], [117, 115, 101, 100], [115, 112, 111, 116, 115], [97, 117, 100, 105, 101, 110, 99, 101], [104, 111, 117, 114], [115, 101, 99, 111, 110, 100, 115], [117, 115, 101, 100], [115, 112, 111, 116, 115], [98, 114, 101, 97, 107], [115, 112, 111, 110, 115, 111, 114], [98, 97, 110], [112, 114, 105, 99, 101], [114, 97, 100, 105, 111]]
def lq_len : List Nat := [6, 5, 34, 16, 8, 13, 15, 12, 12, 5, 5, 7, 3, 5, 8, 4, 7, 4, 5, 8, 4, 7, 4, 5, 5, 7, 3, 5, 5]
/-- what is known of the string constants and of the launch at the law's first state -/
def lq_ok (G : lq_G) : Prop := (lq_l G).stackTraces = false ∧ vx_Zq Bundle.tN "UNASSIGNED_STACK" Bundle.steD (fun q => lq_b G ≤ q) (lq_u G) (lq_u G).heap ∧ vx_Zq Bundle.tN "SUPPRESSED_SENTINEL" Bundle.listD (fun q => lq_b G ≤ q) (lq_u G) (lq_u G).heap ∧
  ∀ i : Nat, i < 29 → va_O "java/lang/String" (lq_k G i) (fun q => lq_b G ≤ q) (lq_u G) (lq_u G).heap ∧ va_OF "java/lang/String" "coder" "B" (.int 0) (lq_k G i) (fun q => lq_b G ≤ q) (lq_u G) (lq_u G).heap ∧ va_OF "java/lang/String" "value" "[B" (.ref (lq_v G i)) (lq_k G i) (fun q => lq_b G ≤ q) (lq_u G) (lq_u G).heap ∧ va_T .byte (lq_v G i) (lq_len.getD i 0) (fun j => .int ((lq_bys.getD i []).getD j 0)) (fun q => lq_b G ≤ q) (lq_u G) (lq_u G).heap
def lq_pr : List (Option Value) → Nat → List (Nat × Value)
  | [], _ => []
  | none :: t, i => lq_pr t (i + 1)
  | some v :: t, i => (i, v) :: lq_pr t (i + 1)
theorem lq_pr_mem : ∀ (l : List (Option Value)) (i : Nat) (q : Nat × Value), q ∈ lq_pr l i ↔ ∃ k : Nat, q.1 = i + k ∧ l[k]? = some (some q.2)
  | [], i, q => by simp [lq_pr]
  | none :: t, i, q => by
    rw [lq_pr, lq_pr_mem t (i + 1) q]
    constructor
    · rintro ⟨k, h1, h2⟩
      exact ⟨k + 1, by omega, by simpa using h2⟩
    · rintro ⟨k, h1, h2⟩
      cases k with
      | zero => simp at h2
      | succ k => exact ⟨k, by omega, by simpa using h2⟩
  | some v :: t, i, q => by
    rw [lq_pr, List.mem_cons, lq_pr_mem t (i + 1) q]
    constructor
    · rintro (rfl | ⟨k, h1, h2⟩)
      · exact ⟨0, by simp, by simp⟩
      · exact ⟨k + 1, by omega, by simpa using h2⟩
    · rintro ⟨k, h1, h2⟩
      cases k with
      | zero =>
        left
        obtain ⟨a, b⟩ := q
        simp at h1 h2
        rw [h1, h2]
      | succ k => exact Or.inr ⟨k, by omega, by simpa using h2⟩
def lq_nl (lv : List (Option Value)) (i : Nat) : Bool := match i with
  | 0 => true
  | k + 1 => match lv[k]? with
    | some (some (.long _)) => false
    | some (some (.double _)) => false
    | _ => true
theorem lq_nl_cat {lv : List (Option Value)} {i k : Nat} {v : Value} (h : lq_nl lv i = true) (hk : k + 1 = i) (hv : lv[k]? = some (some v)) : v.category ≠ 2 := by
  subst hk
  unfold lq_nl at h
  simp only [hv] at h
  cases v <;> first | (simp at h; done) | (intro c; cases c; done)
theorem lq_set1 {ls : Array Slot} {nL : Nat} {lv : List (Option Value)} {i : Nat} {v : Value} (hn : lq_nl lv i = true) (h : lv_has ls nL ((i, v) :: (lq_pr lv 0).filter (fun q => !(q.1 == i) && !(q.1 + 1 == i && q.2.category == 2)))) : lv_has ls nL (lq_pr (lv.set i (some v)) 0) := by
  refine ⟨h.1, h.2.1, fun q hq => h.2.2 q ?_⟩
  obtain ⟨k, h1, h2⟩ := (lq_pr_mem _ _ _).mp hq
  rw [List.getElem?_set] at h2
  by_cases hk : i = k
  · subst hk
    simp at h2 h1
    obtain ⟨a, b⟩ := q
    simp at h1 h2
    rw [h1, ← h2.2]
    exact List.mem_cons_self
  · rw [if_neg hk] at h2
    refine List.mem_cons_of_mem _ (List.mem_filter.mpr ⟨(lq_pr_mem _ _ _).mpr ⟨k, h1, h2⟩, ?_⟩)
    have hq1 : ¬ q.1 = i := by omega
    have hq2 : ¬ (q.1 + 1 = i ∧ q.2.category = 2) := fun hc => lq_nl_cat hn (by omega) h2 hc.2
    simp [hq1]
    omega
theorem lq_set2 {ls : Array Slot} {nL : Nat} {lv : List (Option Value)} {i : Nat} {v : Value} (hn : lq_nl lv i = true) (h : lv_has ls nL ((i, v) :: (lq_pr lv 0).filter (fun q => !(q.1 == i) && (!(q.1 == i + 1) && !(q.1 + 1 == i && q.2.category == 2))))) : lv_has ls nL (lq_pr ((lv.set i (some v)).set (i + 1) none) 0) := by
  refine ⟨h.1, h.2.1, fun q hq => h.2.2 q ?_⟩
  obtain ⟨k, h1, h2⟩ := (lq_pr_mem _ _ _).mp hq
  rw [List.getElem?_set] at h2
  by_cases hk1 : i + 1 = k
  · subst hk1
    simp at h2
  rw [if_neg hk1, List.getElem?_set] at h2
  by_cases hk : i = k
  · subst hk
    simp at h2 h1
    obtain ⟨a, b⟩ := q
    simp at h1 h2
    rw [h1, ← h2.2]
    exact List.mem_cons_self
  · rw [if_neg hk] at h2
    refine List.mem_cons_of_mem _ (List.mem_filter.mpr ⟨(lq_pr_mem _ _ _).mpr ⟨k, h1, h2⟩, ?_⟩)
    have hq1 : ¬ q.1 = i := by omega
    have hq3 : ¬ q.1 = i + 1 := by omega
    have hq2 : ¬ (q.1 + 1 = i ∧ q.2.category = 2) := fun hc => lq_nl_cat hn (by omega) h2 hc.2
    simp [hq1, hq3]
    omega
theorem lq_at {ls : Array Slot} {nL : Nat} {lv : List (Option Value)} {i : Nat} {v : Value} (h : lv_has ls nL (lq_pr lv 0)) (hi : lv[i]? = some (some v)) : ls[i]? = some (.val v) := h.2.2 (i, v) ((lq_pr_mem _ _ _).mpr ⟨i, by simp, hi⟩)
/-- fewer locals known -/
def lq_le : List (Option Value) → List (Option Value) → Prop
  | [], _ => True
  | none :: t, _ :: t' => lq_le t t'
  | none :: t, [] => lq_le t []
  | some v :: t, w :: t' => w = some v ∧ lq_le t t'
  | some _ :: _, [] => False
theorem lq_le_get : ∀ (a b : List (Option Value)) (k : Nat) (v : Value), lq_le a b → a[k]? = some (some v) → b[k]? = some (some v)
  | [], _, k, v, _, h => by simp at h
  | none :: t, w :: t', k, v, hl, h => by
    cases k with
    | zero => simp at h
    | succ k => simpa using lq_le_get t t' k v hl (by simpa using h)
  | none :: t, [], k, v, hl, h => by
    cases k with
    | zero => simp at h
    | succ k => simpa using lq_le_get t [] k v hl (by simpa using h)
  | some u :: t, w :: t', k, v, hl, h => by
    cases k with
    | zero =>
      simp at h
      subst h
      simp [hl.1]
    | succ k => simpa using lq_le_get t t' k v hl.2 (by simpa using h)
  | some _ :: _, [], _, _, hl, _ => hl.elim
theorem lq_le_has {ls : Array Slot} {nL : Nat} {a b : List (Option Value)} (hl : lq_le a b) (h : lv_has ls nL (lq_pr b 0)) : lv_has ls nL (lq_pr a 0) := by
  refine ⟨h.1, h.2.1, fun q hq => h.2.2 q ?_⟩
  obtain ⟨k, h1, h2⟩ := (lq_pr_mem _ _ _).mp hq
  exact (lq_pr_mem _ _ _).mpr ⟨k, h1, lq_le_get _ _ _ _ hl h2⟩
/-! THE JUDGEMENT of a walk over the lite heap -/
/-- name, code, number of locals, result, handlers -/
abbrev lq_Y : Type := MethodName × ByteArray × Nat × Option FieldType × List (Nat × Nat × Nat × Nat)
abbrev lq_P : Type := Option Value → Nat → lq_S → lq_M → lq_N → Prop
abbrev lq_E : Type := String → Nat → lq_S → lq_M → lq_N → Prop
def lq_K (G : lq_G) (U : State) : Prop := va_K (lq_D G) lq_cl (lq_ty G) U ∧ (lq_u G).vm.Alike U.vm ∧ lq_ok G ∧ ∀ (i : Nat) (q : String × Nat × String), lq_strs[i]? = some q → vk_R q.1 q.2.1 q.2.2 (lq_k G i) U
def lq_Qc (G : lq_G) (Q : lq_P) : Array Value → State → Outcome → State → Prop := fun _ st o t => st.heap.size ≤ t.heap.size ∧ ∃ (r : Option Value) (z : Nat) (S : lq_S) (M : lq_M) (N : lq_N), o = .returned r ∧ Q r z S M N ∧ lq_H G t.heap z S M N
def lq_XC (G : lq_G) (X : lq_E) : String → State → State → Prop := fun E st t => st.heap.size ≤ t.heap.size ∧ ∃ (z : Nat) (S : lq_S) (M : lq_M) (N : lq_N), X E z S M N ∧ lq_H G t.heap z S M N
def lq_room (d kc ks : Nat) : Room := { frames := d + 20, cells := kc, slots := ks, locals := 40 * d + 1000 }
def lq_cx (G : lq_G) (Y : lq_Y) (d kc ks : Nat) (z : Nat) (S : lq_S) (M : lq_M) (N : lq_N) (lv : List (Option Value)) (p : Program) (R : Room) (s : State) (m : MethodId) (args : Array Value) (meth : Method) (c : Code) (H : Heap) (locs : List Loc) (cells slots : Nat) (ls : Array Slot) : Prop :=
  (p.tables.exec = Jvm.exec ∧ c.code = Y.2.1 ∧ c.maxLocals = Y.2.2.1 ∧ s.vm.findClass Y.1.cls = some m.cls ∧ ∀ w ∈ lq_W, w.before args s = true) ∧
  (meth.sig.returnType = Y.2.2.2.1 ∧ meth.locks = false ∧ meth.name = Y.1.name ∧ c.exceptionTable.toList = tableOf Y.2.2.2.2) ∧
  (lq_K G s ∧ lq_b G ≤ s.heap.size) ∧
  (lq_H G H z S M N ∧ va_S (fun q => lq_b G ≤ q) s.heap H locs) ∧
  (cells + kc ≤ R.cells ∧ slots + ks ≤ R.slots ∧ d + 20 ≤ R.frames ∧ 40 * d + 1000 ≤ R.locals) ∧
  lv_has ls Y.2.2.1 (lq_pr lv 0)
def LW (G : lq_G) (Y : lq_Y) (d kc ks : Nat) (Q : lq_P) (X : lq_E) (z : Nat) (S : lq_S) (M : lq_M) (N : lq_N) (pc : Nat) (lv : List (Option Value)) (st : List Value) : Prop :=
  ∀ (p : Program) (e : Env) (R : Room) (s : State) (m : MethodId) (args : Array Value) (below : List Frame) (meth : Method) (c : Code) (H : Heap) (locs : List Loc) (cells slots : Nat) (ls : Array Slot),
    lq_cx G Y d kc ks z S M N lv p R s m args meth c H locs cells slots ls → W p (lq_l G) e R s m args below meth c H locs cells slots (vx_MQ below (lq_Qc G Q) (lq_XC G X) args s R.cells R.slots (fun q => lq_b G ≤ q)) (F0 m pc ls st)
section LQ
variable {G : lq_G} {Y : lq_Y} {d kc ks z : Nat} {S : lq_S} {M : lq_M} {N : lq_N} {Q : lq_P} {X : lq_E} {pc : Nat} {lv : List (Option Value)} {st : List Value}
theorem qw_weak (lv' : List (Option Value)) (h : lq_le lv' lv) (k : LW G Y d kc ks Q X z S M N pc lv' st) : LW G Y d kc ks Q X z S M N pc lv st := fun p e R s m args below meth c H locs cells slots ls C => k p e R s m args below meth c H locs cells slots ls ⟨C.1, C.2.1, C.2.2.1, C.2.2.2.1, C.2.2.2.2.1, lq_le_has h C.2.2.2.2.2⟩
theorem qw_budget {kc' ks' : Nat} (h1 : kc' ≤ kc) (h2 : ks' ≤ ks) (k : LW G Y d kc' ks' Q X z S M N pc lv st) : LW G Y d kc ks Q X z S M N pc lv st := fun p e R s m args below meth c H locs cells slots ls C => k p e R s m args below meth c H locs cells slots ls ⟨C.1, C.2.1, C.2.2.1, C.2.2.2.1, ⟨Nat.le_trans (Nat.add_le_add_left h1 _) C.2.2.2.2.1.1, Nat.le_trans (Nat.add_le_add_left h2 _) C.2.2.2.2.1.2.1, C.2.2.2.2.1.2.2⟩, C.2.2.2.2.2⟩
theorem qw_iconst {n : Int} (v : Int32) (hd : decode Y.2.1 pc = .ok (.iconst n, 1)) (hv : Int32.ofInt n = v) (k : LW G Y d kc ks Q X z S M N (pc + 1) lv (.int v :: st)) : LW G Y d kc ks Q X z S M N pc lv st := fun p e R s m args below meth c H locs cells slots ls C => lv_iconst C.1.1 C.1.2.1 hd hv (k p e R s m args below meth c H locs cells slots ls C)
theorem qw_bipush {n : Int} (v : Int32) (hd : decode Y.2.1 pc = .ok (.bipush n, 2)) (hv : (Int8.ofInt n).toInt32 = v) (k : LW G Y d kc ks Q X z S M N (pc + 2) lv (.int v :: st)) : LW G Y d kc ks Q X z S M N pc lv st := fun p e R s m args below meth c H locs cells slots ls C => lv_bipush C.1.1 C.1.2.1 hd hv (k p e R s m args below meth c H locs cells slots ls C)
theorem qw_sipush {n : Int} (v : Int32) (hd : decode Y.2.1 pc = .ok (.sipush n, 3)) (hv : (Int16.ofInt n).toInt32 = v) (k : LW G Y d kc ks Q X z S M N (pc + 3) lv (.int v :: st)) : LW G Y d kc ks Q X z S M N pc lv st := fun p e R s m args below meth c H locs cells slots ls C => lv_sipush C.1.1 C.1.2.1 hd hv (k p e R s m args below meth c H locs cells slots ls C)
theorem qw_lconst {n : Fin 2} (v : Int64) (hd : decode Y.2.1 pc = .ok (.lconst n, 1)) (hv : Int64.ofNat (n : Nat) = v) (k : LW G Y d kc ks Q X z S M N (pc + 1) lv (.long v :: st)) : LW G Y d kc ks Q X z S M N pc lv st := fun p e R s m args below meth c H locs cells slots ls C => lv_lconst C.1.1 C.1.2.1 hd hv (k p e R s m args below meth c H locs cells slots ls C)
theorem qw_iload_n {k0 : Fin 4} (i : Nat) {x : Int32} (hd : decode Y.2.1 pc = .ok (.iload_n k0, 1)) (hi : (k0 : Nat) = i) (h : lv[i]? = some (some (.int x))) (k : LW G Y d kc ks Q X z S M N (pc + 1) lv (.int x :: st)) : LW G Y d kc ks Q X z S M N pc lv st := fun p e R s m args below meth c H locs cells slots ls C => lv_iload_n C.1.1 C.1.2.1 hd hi (lq_at C.2.2.2.2.2 h) (k p e R s m args below meth c H locs cells slots ls C)
theorem qw_iload {i : Nat} {x : Int32} (hd : decode Y.2.1 pc = .ok (.iload i, 2)) (h : lv[i]? = some (some (.int x))) (k : LW G Y d kc ks Q X z S M N (pc + 2) lv (.int x :: st)) : LW G Y d kc ks Q X z S M N pc lv st := fun p e R s m args below meth c H locs cells slots ls C => lv_iload C.1.1 C.1.2.1 hd (lq_at C.2.2.2.2.2 h) (k p e R s m args below meth c H locs cells slots ls C)
theorem qw_aload_n {k0 : Fin 4} (i : Nat) {x : Nat} (hd : decode Y.2.1 pc = .ok (.aload_n k0, 1)) (hi : (k0 : Nat) = i) (h : lv[i]? = some (some (.ref x))) (k : LW G Y d kc ks Q X z S M N (pc + 1) lv (.ref x :: st)) : LW G Y d kc ks Q X z S M N pc lv st := fun p e R s m args below meth c H locs cells slots ls C => lv_aload_n C.1.1 C.1.2.1 hd hi (lq_at C.2.2.2.2.2 h) (k p e R s m args below meth c H locs cells slots ls C)
theorem qw_aload {i : Nat} {x : Nat} (hd : decode Y.2.1 pc = .ok (.aload i, 2)) (h : lv[i]? = some (some (.ref x))) (k : LW G Y d kc ks Q X z S M N (pc + 2) lv (.ref x :: st)) : LW G Y d kc ks Q X z S M N pc lv st := fun p e R s m args below meth c H locs cells slots ls C => lv_aload C.1.1 C.1.2.1 hd (lq_at C.2.2.2.2.2 h) (k p e R s m args below meth c H locs cells slots ls C)
theorem qw_lload_n {k0 : Fin 4} (i : Nat) {x : Int64} (hd : decode Y.2.1 pc = .ok (.lload_n k0, 1)) (hi : (k0 : Nat) = i) (h : lv[i]? = some (some (.long x))) (k : LW G Y d kc ks Q X z S M N (pc + 1) lv (.long x :: st)) : LW G Y d kc ks Q X z S M N pc lv st := fun p e R s m args below meth c H locs cells slots ls C => lv_lload_n C.1.1 C.1.2.1 hd hi (lq_at C.2.2.2.2.2 h) (k p e R s m args below meth c H locs cells slots ls C)
theorem qw_lload {i : Nat} {x : Int64} (hd : decode Y.2.1 pc = .ok (.lload i, 2)) (h : lv[i]? = some (some (.long x))) (k : LW G Y d kc ks Q X z S M N (pc + 2) lv (.long x :: st)) : LW G Y d kc ks Q X z S M N pc lv st := fun p e R s m args below meth c H locs cells slots ls C => lv_lload C.1.1 C.1.2.1 hd (lq_at C.2.2.2.2.2 h) (k p e R s m args below meth c H locs cells slots ls C)
theorem qw_istore_n {k0 : Fin 4} (i : Nat) {x : Int32} (hd : decode Y.2.1 pc = .ok (.istore_n k0, 1)) (hi : (k0 : Nat) = i) (hn : lq_nl lv i = true) (hm : i < Y.2.2.1) (k : LW G Y d kc ks Q X z S M N (pc + 1) (lv.set i (some (.int x))) st) : LW G Y d kc ks Q X z S M N pc lv (.int x :: st) := fun p e R s m args below meth c H locs cells slots ls C => lv_istore_n C.1.1 C.1.2.1 hd hi C.2.2.2.2.2 hm rfl (fun ls1 hl1 => k p e R s m args below meth c H locs cells slots ls1 ⟨C.1, C.2.1, C.2.2.1, C.2.2.2.1, C.2.2.2.2.1, lq_set1 hn hl1⟩)
theorem qw_istore {i : Nat} {x : Int32} (hd : decode Y.2.1 pc = .ok (.istore i, 2)) (hn : lq_nl lv i = true) (hm : i < Y.2.2.1) (k : LW G Y d kc ks Q X z S M N (pc + 2) (lv.set i (some (.int x))) st) : LW G Y d kc ks Q X z S M N pc lv (.int x :: st) := fun p e R s m args below meth c H locs cells slots ls C => lv_istore C.1.1 C.1.2.1 hd C.2.2.2.2.2 hm rfl (fun ls1 hl1 => k p e R s m args below meth c H locs cells slots ls1 ⟨C.1, C.2.1, C.2.2.1, C.2.2.2.1, C.2.2.2.2.1, lq_set1 hn hl1⟩)
theorem qw_astore_n {k0 : Fin 4} (i : Nat) {x : Nat} (hd : decode Y.2.1 pc = .ok (.astore_n k0, 1)) (hi : (k0 : Nat) = i) (hn : lq_nl lv i = true) (hm : i < Y.2.2.1) (k : LW G Y d kc ks Q X z S M N (pc + 1) (lv.set i (some (.ref x))) st) : LW G Y d kc ks Q X z S M N pc lv (.ref x :: st) := fun p e R s m args below meth c H locs cells slots ls C => lv_astore_n C.1.1 C.1.2.1 hd hi C.2.2.2.2.2 hm rfl (fun ls1 hl1 => k p e R s m args below meth c H locs cells slots ls1 ⟨C.1, C.2.1, C.2.2.1, C.2.2.2.1, C.2.2.2.2.1, lq_set1 hn hl1⟩)
theorem qw_astore {i : Nat} {x : Nat} (hd : decode Y.2.1 pc = .ok (.astore i, 2)) (hn : lq_nl lv i = true) (hm : i < Y.2.2.1) (k : LW G Y d kc ks Q X z S M N (pc + 2) (lv.set i (some (.ref x))) st) : LW G Y d kc ks Q X z S M N pc lv (.ref x :: st) := fun p e R s m args below meth c H locs cells slots ls C => lv_astore C.1.1 C.1.2.1 hd C.2.2.2.2.2 hm rfl (fun ls1 hl1 => k p e R s m args below meth c H locs cells slots ls1 ⟨C.1, C.2.1, C.2.2.1, C.2.2.2.1, C.2.2.2.2.1, lq_set1 hn hl1⟩)
theorem qw_lstore_n {k0 : Fin 4} (i : Nat) {x : Int64} (hd : decode Y.2.1 pc = .ok (.lstore_n k0, 1)) (hi : (k0 : Nat) = i) (hn : lq_nl lv i = true) (hm : i + 1 < Y.2.2.1) (k : LW G Y d kc ks Q X z S M N (pc + 1) ((lv.set i (some (.long x))).set (i + 1) none) st) : LW G Y d kc ks Q X z S M N pc lv (.long x :: st) := fun p e R s m args below meth c H locs cells slots ls C => lv_lstore_n C.1.1 C.1.2.1 hd hi C.2.2.2.2.2 hm rfl (fun ls1 hl1 => k p e R s m args below meth c H locs cells slots ls1 ⟨C.1, C.2.1, C.2.2.1, C.2.2.2.1, C.2.2.2.2.1, lq_set2 hn hl1⟩)
theorem qw_lstore {i : Nat} {x : Int64} (hd : decode Y.2.1 pc = .ok (.lstore i, 2)) (hn : lq_nl lv i = true) (hm : i + 1 < Y.2.2.1) (k : LW G Y d kc ks Q X z S M N (pc + 2) ((lv.set i (some (.long x))).set (i + 1) none) st) : LW G Y d kc ks Q X z S M N pc lv (.long x :: st) := fun p e R s m args below meth c H locs cells slots ls C => lv_lstore C.1.1 C.1.2.1 hd C.2.2.2.2.2 hm rfl (fun ls1 hl1 => k p e R s m args below meth c H locs cells slots ls1 ⟨C.1, C.2.1, C.2.2.1, C.2.2.2.1, C.2.2.2.2.1, lq_set2 hn hl1⟩)
theorem lq_pr_get {lv : List (Option Value)} {i : Nat} {v : Value} (h : lv[i]? = some (some v)) : ∃ k : Nat, (lq_pr lv 0)[k]? = some (i, v) := List.getElem?_of_mem ((lq_pr_mem lv 0 (i, v)).mpr ⟨i, (Nat.zero_add i).symm, h⟩)
theorem qw_iinc {i : Nat} {n : Int} {x : Int32} (v : Int32) (hd : decode Y.2.1 pc = .ok (.iinc i n, 3)) (h : lv[i]? = some (some (.int x))) (hv : x + Int32.ofInt n = v) (hn : lq_nl lv i = true) (hm : i < Y.2.2.1) (k : LW G Y d kc ks Q X z S M N (pc + 3) (lv.set i (some (.int v))) st) : LW G Y d kc ks Q X z S M N pc lv st := by
  intro p e R s m args below meth c H locs cells slots ls C
  obtain ⟨j, hj⟩ := lq_pr_get h
  exact lv_iinc C.1.1 C.1.2.1 hd C.2.2.2.2.2 hj hv hm rfl (fun ls1 hl1 => k p e R s m args below meth c H locs cells slots ls1 ⟨C.1, C.2.1, C.2.2.1, C.2.2.2.1, C.2.2.2.2.1, lq_set1 hn hl1⟩)
theorem qw_iadd {x y : Int32} (hd : decode Y.2.1 pc = .ok (.iadd, 1))  (k : LW G Y d kc ks Q X z S M N (pc + 1) lv (.int (x + y) :: st)) : LW G Y d kc ks Q X z S M N pc lv (.int y :: .int x :: st) := fun p e R s m args below meth c H locs cells slots ls C => lv_iadd C.1.1 C.1.2.1 hd  (k p e R s m args below meth c H locs cells slots ls C)
theorem qw_isub {x y : Int32} (hd : decode Y.2.1 pc = .ok (.isub, 1))  (k : LW G Y d kc ks Q X z S M N (pc + 1) lv (.int (x - y) :: st)) : LW G Y d kc ks Q X z S M N pc lv (.int y :: .int x :: st) := fun p e R s m args below meth c H locs cells slots ls C => lv_isub C.1.1 C.1.2.1 hd  (k p e R s m args below meth c H locs cells slots ls C)
theorem qw_imul {x y : Int32} (hd : decode Y.2.1 pc = .ok (.imul, 1))  (k : LW G Y d kc ks Q X z S M N (pc + 1) lv (.int (x * y) :: st)) : LW G Y d kc ks Q X z S M N pc lv (.int y :: .int x :: st) := fun p e R s m args below meth c H locs cells slots ls C => lv_imul C.1.1 C.1.2.1 hd  (k p e R s m args below meth c H locs cells slots ls C)
theorem qw_iand {x y : Int32} (hd : decode Y.2.1 pc = .ok (.iand, 1))  (k : LW G Y d kc ks Q X z S M N (pc + 1) lv (.int (x &&& y) :: st)) : LW G Y d kc ks Q X z S M N pc lv (.int y :: .int x :: st) := fun p e R s m args below meth c H locs cells slots ls C => lv_iand C.1.1 C.1.2.1 hd  (k p e R s m args below meth c H locs cells slots ls C)
theorem qw_ior {x y : Int32} (hd : decode Y.2.1 pc = .ok (.ior, 1))  (k : LW G Y d kc ks Q X z S M N (pc + 1) lv (.int (x ||| y) :: st)) : LW G Y d kc ks Q X z S M N pc lv (.int y :: .int x :: st) := fun p e R s m args below meth c H locs cells slots ls C => lv_ior C.1.1 C.1.2.1 hd  (k p e R s m args below meth c H locs cells slots ls C)
theorem qw_ixor {x y : Int32} (hd : decode Y.2.1 pc = .ok (.ixor, 1))  (k : LW G Y d kc ks Q X z S M N (pc + 1) lv (.int (x ^^^ y) :: st)) : LW G Y d kc ks Q X z S M N pc lv (.int y :: .int x :: st) := fun p e R s m args below meth c H locs cells slots ls C => lv_ixor C.1.1 C.1.2.1 hd  (k p e R s m args below meth c H locs cells slots ls C)
theorem qw_ladd {x y : Int64} (hd : decode Y.2.1 pc = .ok (.ladd, 1))  (k : LW G Y d kc ks Q X z S M N (pc + 1) lv (.long (x + y) :: st)) : LW G Y d kc ks Q X z S M N pc lv (.long y :: .long x :: st) := fun p e R s m args below meth c H locs cells slots ls C => lv_ladd C.1.1 C.1.2.1 hd  (k p e R s m args below meth c H locs cells slots ls C)
theorem qw_lsub {x y : Int64} (hd : decode Y.2.1 pc = .ok (.lsub, 1))  (k : LW G Y d kc ks Q X z S M N (pc + 1) lv (.long (x - y) :: st)) : LW G Y d kc ks Q X z S M N pc lv (.long y :: .long x :: st) := fun p e R s m args below meth c H locs cells slots ls C => lv_lsub C.1.1 C.1.2.1 hd  (k p e R s m args below meth c H locs cells slots ls C)
theorem qw_lmul {x y : Int64} (hd : decode Y.2.1 pc = .ok (.lmul, 1))  (k : LW G Y d kc ks Q X z S M N (pc + 1) lv (.long (x * y) :: st)) : LW G Y d kc ks Q X z S M N pc lv (.long y :: .long x :: st) := fun p e R s m args below meth c H locs cells slots ls C => lv_lmul C.1.1 C.1.2.1 hd  (k p e R s m args below meth c H locs cells slots ls C)
theorem qw_idiv {x y : Int32} (hd : decode Y.2.1 pc = .ok (.idiv, 1)) (hne : ¬ y = 0) (k : LW G Y d kc ks Q X z S M N (pc + 1) lv (.int (x / y) :: st)) : LW G Y d kc ks Q X z S M N pc lv (.int y :: .int x :: st) := fun p e R s m args below meth c H locs cells slots ls C => lv_idiv C.1.1 C.1.2.1 hd hne (k p e R s m args below meth c H locs cells slots ls C)
theorem qw_irem {x y : Int32} (hd : decode Y.2.1 pc = .ok (.irem, 1)) (hne : ¬ y = 0) (k : LW G Y d kc ks Q X z S M N (pc + 1) lv (.int (x - x / y * y) :: st)) : LW G Y d kc ks Q X z S M N pc lv (.int y :: .int x :: st) := fun p e R s m args below meth c H locs cells slots ls C => lv_irem C.1.1 C.1.2.1 hd hne (k p e R s m args below meth c H locs cells slots ls C)
theorem qw_ineg {x : Int32} (hd : decode Y.2.1 pc = .ok (.ineg, 1))  (k : LW G Y d kc ks Q X z S M N (pc + 1) lv (.int (-x) :: st)) : LW G Y d kc ks Q X z S M N pc lv (.int x :: st) := fun p e R s m args below meth c H locs cells slots ls C => lv_ineg C.1.1 C.1.2.1 hd  (k p e R s m args below meth c H locs cells slots ls C)
theorem qw_ishl {x y : Int32} (hd : decode Y.2.1 pc = .ok (.ishl, 1))  (k : LW G Y d kc ks Q X z S M N (pc + 1) lv (.int (x <<< (y &&& 31)) :: st)) : LW G Y d kc ks Q X z S M N pc lv (.int y :: .int x :: st) := fun p e R s m args below meth c H locs cells slots ls C => lv_ishl C.1.1 C.1.2.1 hd  (k p e R s m args below meth c H locs cells slots ls C)
theorem qw_ishr {x y : Int32} (hd : decode Y.2.1 pc = .ok (.ishr, 1))  (k : LW G Y d kc ks Q X z S M N (pc + 1) lv (.int (x >>> (y &&& 31)) :: st)) : LW G Y d kc ks Q X z S M N pc lv (.int y :: .int x :: st) := fun p e R s m args below meth c H locs cells slots ls C => lv_ishr C.1.1 C.1.2.1 hd  (k p e R s m args below meth c H locs cells slots ls C)
theorem qw_iushr {x y : Int32} (v : Int32) (hd : decode Y.2.1 pc = .ok (.iushr, 1)) (hv : (x.toUInt32 >>> (y.toUInt32 &&& Int32.toUInt32 31)).toInt32 = v) (k : LW G Y d kc ks Q X z S M N (pc + 1) lv (.int v :: st)) : LW G Y d kc ks Q X z S M N pc lv (.int y :: .int x :: st) := fun p e R s m args below meth c H locs cells slots ls C => lv_iushr C.1.1 C.1.2.1 hd hv (k p e R s m args below meth c H locs cells slots ls C)
theorem qw_ldiv {x y : Int64} (hd : decode Y.2.1 pc = .ok (.ldiv, 1)) (hne : ¬ y = 0) (k : LW G Y d kc ks Q X z S M N (pc + 1) lv (.long (x / y) :: st)) : LW G Y d kc ks Q X z S M N pc lv (.long y :: .long x :: st) := fun p e R s m args below meth c H locs cells slots ls C => lv_ldiv C.1.1 C.1.2.1 hd hne (k p e R s m args below meth c H locs cells slots ls C)
theorem qw_lcmp {x y : Int64} (hd : decode Y.2.1 pc = .ok (.lcmp, 1))  (k : LW G Y d kc ks Q X z S M N (pc + 1) lv (.int (lg_cmp x y) :: st)) : LW G Y d kc ks Q X z S M N pc lv (.long y :: .long x :: st) := fun p e R s m args below meth c H locs cells slots ls C => W.lcmp C.1.1 C.1.2.1 hd  (k p e R s m args below meth c H locs cells slots ls C)
theorem qw_i2l {x : Int32} (v : Int64) (hd : decode Y.2.1 pc = .ok (.i2l, 1)) (hv : x.toInt64 = v) (k : LW G Y d kc ks Q X z S M N (pc + 1) lv (.long v :: st)) : LW G Y d kc ks Q X z S M N pc lv (.int x :: st) := fun p e R s m args below meth c H locs cells slots ls C => lv_i2l C.1.1 C.1.2.1 hd hv (k p e R s m args below meth c H locs cells slots ls C)
theorem qw_l2i {x : Int64} (v : Int32) (hd : decode Y.2.1 pc = .ok (.l2i, 1)) (hv : x.toInt32 = v) (k : LW G Y d kc ks Q X z S M N (pc + 1) lv (.int v :: st)) : LW G Y d kc ks Q X z S M N pc lv (.long x :: st) := fun p e R s m args below meth c H locs cells slots ls C => lv_l2i C.1.1 C.1.2.1 hd hv (k p e R s m args below meth c H locs cells slots ls C)
theorem qw_i2b {x : Int32} (v : Int32) (hd : decode Y.2.1 pc = .ok (.i2b, 1)) (hv : x.toInt8.toInt32 = v) (k : LW G Y d kc ks Q X z S M N (pc + 1) lv (.int v :: st)) : LW G Y d kc ks Q X z S M N pc lv (.int x :: st) := fun p e R s m args below meth c H locs cells slots ls C => lv_i2b C.1.1 C.1.2.1 hd hv (k p e R s m args below meth c H locs cells slots ls C)
theorem qw_i2c {x : Int32} (v : Int32) (hd : decode Y.2.1 pc = .ok (.i2c, 1)) (hv : (x.toUInt32 % 65536).toInt32 = v) (k : LW G Y d kc ks Q X z S M N (pc + 1) lv (.int v :: st)) : LW G Y d kc ks Q X z S M N pc lv (.int x :: st) := fun p e R s m args below meth c H locs cells slots ls C => lv_i2c C.1.1 C.1.2.1 hd hv (k p e R s m args below meth c H locs cells slots ls C)
theorem qw_dup {va : Value} (hd : decode Y.2.1 pc = .ok (.dup, 1)) (hva : va.category = 1) (k : LW G Y d kc ks Q X z S M N (pc + 1) lv (va :: va :: st)) : LW G Y d kc ks Q X z S M N pc lv (va :: st) := fun p e R s m args below meth c H locs cells slots ls C => lv_dup C.1.1 C.1.2.1 hd hva (k p e R s m args below meth c H locs cells slots ls C)
theorem qw_pop {va : Value} (hd : decode Y.2.1 pc = .ok (.pop, 1)) (hva : va.category = 1) (k : LW G Y d kc ks Q X z S M N (pc + 1) lv st) : LW G Y d kc ks Q X z S M N pc lv (va :: st) := fun p e R s m args below meth c H locs cells slots ls C => lv_pop C.1.1 C.1.2.1 hd hva (k p e R s m args below meth c H locs cells slots ls C)
theorem qw_dup2 {va vb : Value} (hd : decode Y.2.1 pc = .ok (.dup2, 1)) (hva : va.category = 1) (hvb : vb.category = 1) (k : LW G Y d kc ks Q X z S M N (pc + 1) lv (va :: vb :: va :: vb :: st)) : LW G Y d kc ks Q X z S M N pc lv (va :: vb :: st) := fun p e R s m args below meth c H locs cells slots ls C => lv_dup2_11 C.1.1 C.1.2.1 hd hva hvb (k p e R s m args below meth c H locs cells slots ls C)
theorem qw_icmp_eq {x y : Int32} {off : Int} (tgt : Nat) (hd : decode Y.2.1 pc = .ok (.if_icmp .eq off, 3)) (ht : (pc : Int) + off = (tgt : Int)) (kt : x = y → LW G Y d kc ks Q X z S M N tgt lv st) (kf : ¬ x = y → LW G Y d kc ks Q X z S M N (pc + 3) lv st) : LW G Y d kc ks Q X z S M N pc lv (.int y :: .int x :: st) := fun p e R s m args below meth c H locs cells slots ls C => lv_icmp_eq C.1.1 C.1.2.1 hd ht (fun q => kt q p e R s m args below meth c H locs cells slots ls C) (fun q => kf q p e R s m args below meth c H locs cells slots ls C)
theorem qw_if_eq {x : Int32} {off : Int} (tgt : Nat) (hd : decode Y.2.1 pc = .ok (.ifCond .eq off, 3)) (ht : (pc : Int) + off = (tgt : Int)) (kt : x = 0 → LW G Y d kc ks Q X z S M N tgt lv st) (kf : ¬ x = 0 → LW G Y d kc ks Q X z S M N (pc + 3) lv st) : LW G Y d kc ks Q X z S M N pc lv (.int x :: st) := fun p e R s m args below meth c H locs cells slots ls C => lv_if_eq C.1.1 C.1.2.1 hd ht (fun q => kt q p e R s m args below meth c H locs cells slots ls C) (fun q => kf q p e R s m args below meth c H locs cells slots ls C)
theorem qw_icmp_ne {x y : Int32} {off : Int} (tgt : Nat) (hd : decode Y.2.1 pc = .ok (.if_icmp .ne off, 3)) (ht : (pc : Int) + off = (tgt : Int)) (kt : ¬ x = y → LW G Y d kc ks Q X z S M N tgt lv st) (kf : x = y → LW G Y d kc ks Q X z S M N (pc + 3) lv st) : LW G Y d kc ks Q X z S M N pc lv (.int y :: .int x :: st) := fun p e R s m args below meth c H locs cells slots ls C => lv_icmp_ne C.1.1 C.1.2.1 hd ht (fun q => kt q p e R s m args below meth c H locs cells slots ls C) (fun q => kf q p e R s m args below meth c H locs cells slots ls C)
theorem qw_if_ne {x : Int32} {off : Int} (tgt : Nat) (hd : decode Y.2.1 pc = .ok (.ifCond .ne off, 3)) (ht : (pc : Int) + off = (tgt : Int)) (kt : ¬ x = 0 → LW G Y d kc ks Q X z S M N tgt lv st) (kf : x = 0 → LW G Y d kc ks Q X z S M N (pc + 3) lv st) : LW G Y d kc ks Q X z S M N pc lv (.int x :: st) := fun p e R s m args below meth c H locs cells slots ls C => lv_if_ne C.1.1 C.1.2.1 hd ht (fun q => kt q p e R s m args below meth c H locs cells slots ls C) (fun q => kf q p e R s m args below meth c H locs cells slots ls C)
theorem qw_icmp_lt {x y : Int32} {off : Int} (tgt : Nat) (hd : decode Y.2.1 pc = .ok (.if_icmp .lt off, 3)) (ht : (pc : Int) + off = (tgt : Int)) (kt : x < y → LW G Y d kc ks Q X z S M N tgt lv st) (kf : ¬ x < y → LW G Y d kc ks Q X z S M N (pc + 3) lv st) : LW G Y d kc ks Q X z S M N pc lv (.int y :: .int x :: st) := fun p e R s m args below meth c H locs cells slots ls C => lv_icmp_lt C.1.1 C.1.2.1 hd ht (fun q => kt q p e R s m args below meth c H locs cells slots ls C) (fun q => kf q p e R s m args below meth c H locs cells slots ls C)
theorem qw_if_lt {x : Int32} {off : Int} (tgt : Nat) (hd : decode Y.2.1 pc = .ok (.ifCond .lt off, 3)) (ht : (pc : Int) + off = (tgt : Int)) (kt : x < 0 → LW G Y d kc ks Q X z S M N tgt lv st) (kf : ¬ x < 0 → LW G Y d kc ks Q X z S M N (pc + 3) lv st) : LW G Y d kc ks Q X z S M N pc lv (.int x :: st) := fun p e R s m args below meth c H locs cells slots ls C => lv_if_lt C.1.1 C.1.2.1 hd ht (fun q => kt q p e R s m args below meth c H locs cells slots ls C) (fun q => kf q p e R s m args below meth c H locs cells slots ls C)
theorem qw_icmp_ge {x y : Int32} {off : Int} (tgt : Nat) (hd : decode Y.2.1 pc = .ok (.if_icmp .ge off, 3)) (ht : (pc : Int) + off = (tgt : Int)) (kt : y ≤ x → LW G Y d kc ks Q X z S M N tgt lv st) (kf : ¬ y ≤ x → LW G Y d kc ks Q X z S M N (pc + 3) lv st) : LW G Y d kc ks Q X z S M N pc lv (.int y :: .int x :: st) := fun p e R s m args below meth c H locs cells slots ls C => lv_icmp_ge C.1.1 C.1.2.1 hd ht (fun q => kt q p e R s m args below meth c H locs cells slots ls C) (fun q => kf q p e R s m args below meth c H locs cells slots ls C)
theorem qw_if_ge {x : Int32} {off : Int} (tgt : Nat) (hd : decode Y.2.1 pc = .ok (.ifCond .ge off, 3)) (ht : (pc : Int) + off = (tgt : Int)) (kt : 0 ≤ x → LW G Y d kc ks Q X z S M N tgt lv st) (kf : ¬ 0 ≤ x → LW G Y d kc ks Q X z S M N (pc + 3) lv st) : LW G Y d kc ks Q X z S M N pc lv (.int x :: st) := fun p e R s m args below meth c H locs cells slots ls C => lv_if_ge C.1.1 C.1.2.1 hd ht (fun q => kt q p e R s m args below meth c H locs cells slots ls C) (fun q => kf q p e R s m args below meth c H locs cells slots ls C)
theorem qw_icmp_gt {x y : Int32} {off : Int} (tgt : Nat) (hd : decode Y.2.1 pc = .ok (.if_icmp .gt off, 3)) (ht : (pc : Int) + off = (tgt : Int)) (kt : y < x → LW G Y d kc ks Q X z S M N tgt lv st) (kf : ¬ y < x → LW G Y d kc ks Q X z S M N (pc + 3) lv st) : LW G Y d kc ks Q X z S M N pc lv (.int y :: .int x :: st) := fun p e R s m args below meth c H locs cells slots ls C => lv_icmp_gt C.1.1 C.1.2.1 hd ht (fun q => kt q p e R s m args below meth c H locs cells slots ls C) (fun q => kf q p e R s m args below meth c H locs cells slots ls C)
theorem qw_if_gt {x : Int32} {off : Int} (tgt : Nat) (hd : decode Y.2.1 pc = .ok (.ifCond .gt off, 3)) (ht : (pc : Int) + off = (tgt : Int)) (kt : 0 < x → LW G Y d kc ks Q X z S M N tgt lv st) (kf : ¬ 0 < x → LW G Y d kc ks Q X z S M N (pc + 3) lv st) : LW G Y d kc ks Q X z S M N pc lv (.int x :: st) := fun p e R s m args below meth c H locs cells slots ls C => lv_if_gt C.1.1 C.1.2.1 hd ht (fun q => kt q p e R s m args below meth c H locs cells slots ls C) (fun q => kf q p e R s m args below meth c H locs cells slots ls C)
theorem qw_icmp_le {x y : Int32} {off : Int} (tgt : Nat) (hd : decode Y.2.1 pc = .ok (.if_icmp .le off, 3)) (ht : (pc : Int) + off = (tgt : Int)) (kt : x ≤ y → LW G Y d kc ks Q X z S M N tgt lv st) (kf : ¬ x ≤ y → LW G Y d kc ks Q X z S M N (pc + 3) lv st) : LW G Y d kc ks Q X z S M N pc lv (.int y :: .int x :: st) := fun p e R s m args below meth c H locs cells slots ls C => lv_icmp_le C.1.1 C.1.2.1 hd ht (fun q => kt q p e R s m args below meth c H locs cells slots ls C) (fun q => kf q p e R s m args below meth c H locs cells slots ls C)
theorem qw_if_le {x : Int32} {off : Int} (tgt : Nat) (hd : decode Y.2.1 pc = .ok (.ifCond .le off, 3)) (ht : (pc : Int) + off = (tgt : Int)) (kt : x ≤ 0 → LW G Y d kc ks Q X z S M N tgt lv st) (kf : ¬ x ≤ 0 → LW G Y d kc ks Q X z S M N (pc + 3) lv st) : LW G Y d kc ks Q X z S M N pc lv (.int x :: st) := fun p e R s m args below meth c H locs cells slots ls C => lv_if_le C.1.1 C.1.2.1 hd ht (fun q => kt q p e R s m args below meth c H locs cells slots ls C) (fun q => kf q p e R s m args below meth c H locs cells slots ls C)
theorem qw_goto {off : Int} (tgt : Nat) (hd : decode Y.2.1 pc = .ok (.goto off, 3)) (ht : (pc : Int) + off = (tgt : Int)) (k : LW G Y d kc ks Q X z S M N tgt lv st) : LW G Y d kc ks Q X z S M N pc lv st := fun p e R s m args below meth c H locs cells slots ls C => lv_goto C.1.1 C.1.2.1 hd ht (k p e R s m args below meth c H locs cells slots ls C)
theorem qw_ldc {i : Nat} {v : Int32} (hd : decode Y.2.1 pc = .ok (.ldc i, 2)) (hw : Cond.constant Y.1.cls i v ∈ lq_W) (k : LW G Y d kc ks Q X z S M N (pc + 2) lv (.int v :: st)) : LW G Y d kc ks Q X z S M N pc lv st := fun p e R s m args below meth c H locs cells slots ls C => lv_ldc C.1.1 C.1.2.1 C.1.2.2.2.1 (C.1.2.2.2.2 _ hw) hd (k p e R s m args below meth c H locs cells slots ls C)
theorem qw_ldcw {i : Nat} {v : Int32} (hd : decode Y.2.1 pc = .ok (.ldc_w i, 3)) (hw : Cond.constant Y.1.cls i v ∈ lq_W) (k : LW G Y d kc ks Q X z S M N (pc + 3) lv (.int v :: st)) : LW G Y d kc ks Q X z S M N pc lv st := fun p e R s m args below meth c H locs cells slots ls C => lv_ldcw C.1.1 C.1.2.1 C.1.2.2.2.1 (C.1.2.2.2.2 _ hw) hd (k p e R s m args below meth c H locs cells slots ls C)
theorem qw_ldc2 {i : Nat} {v : Int64} (hd : decode Y.2.1 pc = .ok (.ldc2_w i, 3)) (hw : Cond.constantLong Y.1.cls i v ∈ lq_W) (k : LW G Y d kc ks Q X z S M N (pc + 3) lv (.long v :: st)) : LW G Y d kc ks Q X z S M N pc lv st := fun p e R s m args below meth c H locs cells slots ls C => lv_ldc2 C.1.1 C.1.2.1 C.1.2.2.2.1 (C.1.2.2.2.2 _ hw) hd (k p e R s m args below meth c H locs cells slots ls C)
theorem qw_ldcS {i : Nat} (j : Nat) {tx : String} (hd : decode Y.2.1 pc = .ok (.ldc i, 2)) (hw : lq_strs[j]? = some (Y.1.cls, i, tx)) (k : LW G Y d kc ks Q X z S M N (pc + 2) lv (.ref (lq_k G j) :: st)) : LW G Y d kc ks Q X z S M N pc lv st := fun p e R s m args below meth c H locs cells slots ls C => va_ldcS C.1.1 C.1.2.1 C.1.2.2.2.1 (C.2.2.1.1.2.2.2 j _ hw) hd (k p e R s m args below meth c H locs cells slots ls C)
theorem qw_tabOut {dflt lo hi : Int} {offs : Array Int} {len : Nat} {x : Int32} (tgt : Nat) (hd : decode Y.2.1 pc = .ok (.tableswitch dflt lo hi offs, len)) (h : x.toInt < lo ∨ hi < x.toInt) (ht : (pc : Int) + dflt = (tgt : Int)) (k : LW G Y d kc ks Q X z S M N tgt lv st) : LW G Y d kc ks Q X z S M N pc lv (.int x :: st) := fun p e R s m args below meth c H locs cells slots ls C => lv_tableOut C.1.1 C.1.2.1 hd h ht (k p e R s m args below meth c H locs cells slots ls C)
theorem qw_tabIn {dflt lo hi : Int} {offs : Array Int} {len : Nat} {x : Int32} {off : Int} (tgt : Nat) (hd : decode Y.2.1 pc = .ok (.tableswitch dflt lo hi offs, len)) (h1 : ¬ x.toInt < lo) (h2 : ¬ hi < x.toInt) (ho : offs[(x.toInt - lo).toNat]? = some off) (ht : (pc : Int) + off = (tgt : Int)) (k : LW G Y d kc ks Q X z S M N tgt lv st) : LW G Y d kc ks Q X z S M N pc lv (.int x :: st) := fun p e R s m args below meth c H locs cells slots ls C => lv_tableIn C.1.1 C.1.2.1 hd h1 h2 ho ht (k p e R s m args below meth c H locs cells slots ls C)
theorem qw_eqi {x : Int32} (y : Int32) (h : x = y) (k : LW G Y d kc ks Q X z S M N pc lv (.int y :: st)) : LW G Y d kc ks Q X z S M N pc lv (.int x :: st) := h ▸ k
theorem qw_eql {x : Int64} (y : Int64) (h : x = y) (k : LW G Y d kc ks Q X z S M N pc lv (.long y :: st)) : LW G Y d kc ks Q X z S M N pc lv (.long x :: st) := h ▸ k
theorem qw_addN {a b : Nat} (hd : decode Y.2.1 pc = .ok (.iadd, 1)) (k : LW G Y d kc ks Q X z S M N (pc + 1) lv (.int (nI (a + b)) :: st)) : LW G Y d kc ks Q X z S M N pc lv (.int (nI b) :: .int (nI a) :: st) := qw_iadd hd (by rw [nI_add]; exact k)
theorem qw_mulN {a b : Nat} (hd : decode Y.2.1 pc = .ok (.imul, 1)) (k : LW G Y d kc ks Q X z S M N (pc + 1) lv (.int (nI (a * b)) :: st)) : LW G Y d kc ks Q X z S M N pc lv (.int (nI b) :: .int (nI a) :: st) := qw_imul hd (by rw [pk_mul]; exact k)
theorem qw_subN {a b : Nat} (h : b ≤ a) (hd : decode Y.2.1 pc = .ok (.isub, 1)) (k : LW G Y d kc ks Q X z S M N (pc + 1) lv (.int (nI (a - b)) :: st)) : LW G Y d kc ks Q X z S M N pc lv (.int (nI b) :: .int (nI a) :: st) := qw_isub hd (by rw [pk_sub h]; exact k)
theorem qw_iincN {i : Nat} {a : Nat} (b : Nat) {n : Int} (hd : decode Y.2.1 pc = .ok (.iinc i n, 3)) (h : lv[i]? = some (some (.int (nI a)))) (hv : Int32.ofInt n = nI b) (hn : lq_nl lv i = true) (hm : i < Y.2.2.1) (k : LW G Y d kc ks Q X z S M N (pc + 3) (lv.set i (some (.int (nI (a + b))))) st) : LW G Y d kc ks Q X z S M N pc lv st := qw_iinc (nI (a + b)) hd h (by rw [hv, nI_add]) hn hm k
theorem qw_icmp_eqN {a b : Nat} {off : Int} (tgt : Nat) (hd : decode Y.2.1 pc = .ok (.if_icmp .eq off, 3)) (ht : (pc : Int) + off = (tgt : Int)) (ha : a < 2 ^ 31) (hb : b < 2 ^ 31) (kt : a = b → LW G Y d kc ks Q X z S M N tgt lv st) (kf : a ≠ b → LW G Y d kc ks Q X z S M N (pc + 3) lv st) : LW G Y d kc ks Q X z S M N pc lv (.int (nI b) :: .int (nI a) :: st) := qw_icmp_eq tgt hd ht (fun q => kt ((nI_eq ha hb).mp q)) (fun q => kf (fun z => q ((nI_eq ha hb).mpr z)))
theorem qw_icmp_neN {a b : Nat} {off : Int} (tgt : Nat) (hd : decode Y.2.1 pc = .ok (.if_icmp .ne off, 3)) (ht : (pc : Int) + off = (tgt : Int)) (ha : a < 2 ^ 31) (hb : b < 2 ^ 31) (kt : a ≠ b → LW G Y d kc ks Q X z S M N tgt lv st) (kf : a = b → LW G Y d kc ks Q X z S M N (pc + 3) lv st) : LW G Y d kc ks Q X z S M N pc lv (.int (nI b) :: .int (nI a) :: st) := qw_icmp_ne tgt hd ht (fun q => kt (fun z => q ((nI_eq ha hb).mpr z))) (fun q => kf ((nI_eq ha hb).mp q))
theorem qw_icmp_ltN {a b : Nat} {off : Int} (tgt : Nat) (hd : decode Y.2.1 pc = .ok (.if_icmp .lt off, 3)) (ht : (pc : Int) + off = (tgt : Int)) (ha : a < 2 ^ 31) (hb : b < 2 ^ 31) (kt : a < b → LW G Y d kc ks Q X z S M N tgt lv st) (kf : b ≤ a → LW G Y d kc ks Q X z S M N (pc + 3) lv st) : LW G Y d kc ks Q X z S M N pc lv (.int (nI b) :: .int (nI a) :: st) := qw_icmp_lt tgt hd ht (fun q => kt ((nI_ltI ha hb).mp q)) (fun q => kf (Nat.not_lt.mp (fun z => q ((nI_ltI ha hb).mpr z))))
theorem qw_icmp_geN {a b : Nat} {off : Int} (tgt : Nat) (hd : decode Y.2.1 pc = .ok (.if_icmp .ge off, 3)) (ht : (pc : Int) + off = (tgt : Int)) (ha : a < 2 ^ 31) (hb : b < 2 ^ 31) (kt : b ≤ a → LW G Y d kc ks Q X z S M N tgt lv st) (kf : a < b → LW G Y d kc ks Q X z S M N (pc + 3) lv st) : LW G Y d kc ks Q X z S M N pc lv (.int (nI b) :: .int (nI a) :: st) := qw_icmp_ge tgt hd ht (fun q => kt ((nI_leI hb ha).mp q)) (fun q => kf (Nat.not_le.mp (fun z => q ((nI_leI hb ha).mpr z))))
theorem qw_icmp_gtN {a b : Nat} {off : Int} (tgt : Nat) (hd : decode Y.2.1 pc = .ok (.if_icmp .gt off, 3)) (ht : (pc : Int) + off = (tgt : Int)) (ha : a < 2 ^ 31) (hb : b < 2 ^ 31) (kt : b < a → LW G Y d kc ks Q X z S M N tgt lv st) (kf : a ≤ b → LW G Y d kc ks Q X z S M N (pc + 3) lv st) : LW G Y d kc ks Q X z S M N pc lv (.int (nI b) :: .int (nI a) :: st) := qw_icmp_gt tgt hd ht (fun q => kt ((nI_ltI hb ha).mp q)) (fun q => kf (Nat.not_lt.mp (fun z => q ((nI_ltI hb ha).mpr z))))
theorem qw_icmp_leN {a b : Nat} {off : Int} (tgt : Nat) (hd : decode Y.2.1 pc = .ok (.if_icmp .le off, 3)) (ht : (pc : Int) + off = (tgt : Int)) (ha : a < 2 ^ 31) (hb : b < 2 ^ 31) (kt : a ≤ b → LW G Y d kc ks Q X z S M N tgt lv st) (kf : b < a → LW G Y d kc ks Q X z S M N (pc + 3) lv st) : LW G Y d kc ks Q X z S M N pc lv (.int (nI b) :: .int (nI a) :: st) := qw_icmp_le tgt hd ht (fun q => kt ((nI_leI ha hb).mp q)) (fun q => kf (Nat.not_le.mp (fun z => q ((nI_leI ha hb).mpr z))))
theorem lq_n0 {a : Nat} (ha : a < 2 ^ 31) : nI a = 0 ↔ a = 0 := nI_eq (b := 0) ha (by decide)
theorem qw_if_eqN {a : Nat} {off : Int} (tgt : Nat) (hd : decode Y.2.1 pc = .ok (.ifCond .eq off, 3)) (ht : (pc : Int) + off = (tgt : Int)) (ha : a < 2 ^ 31) (kt : a = 0 → LW G Y d kc ks Q X z S M N tgt lv st) (kf : a ≠ 0 → LW G Y d kc ks Q X z S M N (pc + 3) lv st) : LW G Y d kc ks Q X z S M N pc lv (.int (nI a) :: st) := qw_if_eq tgt hd ht (fun q => kt ((lq_n0 ha).mp q)) (fun q => kf (fun z => q ((lq_n0 ha).mpr z)))
theorem qw_if_neN {a : Nat} {off : Int} (tgt : Nat) (hd : decode Y.2.1 pc = .ok (.ifCond .ne off, 3)) (ht : (pc : Int) + off = (tgt : Int)) (ha : a < 2 ^ 31) (kt : a ≠ 0 → LW G Y d kc ks Q X z S M N tgt lv st) (kf : a = 0 → LW G Y d kc ks Q X z S M N (pc + 3) lv st) : LW G Y d kc ks Q X z S M N pc lv (.int (nI a) :: st) := qw_if_ne tgt hd ht (fun q => kt (fun z => q ((lq_n0 ha).mpr z))) (fun q => kf ((lq_n0 ha).mp q))
theorem qw_if_gtN {a : Nat} {off : Int} (tgt : Nat) (hd : decode Y.2.1 pc = .ok (.ifCond .gt off, 3)) (ht : (pc : Int) + off = (tgt : Int)) (ha : a < 2 ^ 31) (kt : 0 < a → LW G Y d kc ks Q X z S M N tgt lv st) (kf : a = 0 → LW G Y d kc ks Q X z S M N (pc + 3) lv st) : LW G Y d kc ks Q X z S M N pc lv (.int (nI a) :: st) := qw_if_gt tgt hd ht (fun q => kt ((nI_ltI (a := 0) (by decide) ha).mp q)) (fun q => kf (Nat.le_zero.mp (Nat.not_lt.mp (fun z => q ((nI_ltI (a := 0) (by decide) ha).mpr z)))))
theorem qw_if_leN {a : Nat} {off : Int} (tgt : Nat) (hd : decode Y.2.1 pc = .ok (.ifCond .le off, 3)) (ht : (pc : Int) + off = (tgt : Int)) (ha : a < 2 ^ 31) (kt : a = 0 → LW G Y d kc ks Q X z S M N tgt lv st) (kf : 0 < a → LW G Y d kc ks Q X z S M N (pc + 3) lv st) : LW G Y d kc ks Q X z S M N pc lv (.int (nI a) :: st) := qw_if_le tgt hd ht (fun q => kt (Nat.le_zero.mp (Nat.not_lt.mp (fun z => (Int32.not_le.mpr ((nI_ltI (a := 0) (by decide) ha).mpr z)) q)))) (fun q => kf ((nI_ltI (a := 0) (by decide) ha).mp (Int32.not_le.mp q)))
theorem qw_if_ltN {a : Nat} {off : Int} (tgt : Nat) (hd : decode Y.2.1 pc = .ok (.ifCond .lt off, 3)) (ht : (pc : Int) + off = (tgt : Int)) (ha : a < 2 ^ 31) (kf : LW G Y d kc ks Q X z S M N (pc + 3) lv st) : LW G Y d kc ks Q X z S M N pc lv (.int (nI a) :: st) := qw_if_lt tgt hd ht (fun q => absurd q (nI_pos ha)) (fun _ => kf)
theorem qw_if_geN {a : Nat} {off : Int} (tgt : Nat) (hd : decode Y.2.1 pc = .ok (.ifCond .ge off, 3)) (ht : (pc : Int) + off = (tgt : Int)) (ha : a < 2 ^ 31) (kt : LW G Y d kc ks Q X z S M N tgt lv st) : LW G Y d kc ks Q X z S M N pc lv (.int (nI a) :: st) := qw_if_ge tgt hd ht (fun _ => kt) (fun q => absurd (nI_pos' ha) q)
theorem lq_retQ {Q : lq_P} {s : State} {H : Heap} {locs : List Loc} {v : Option Value} {args : Array Value} (h : lq_H G H z S M N ∧ va_S (fun q => lq_b G ≤ q) s.heap H locs) (q : Q v z S M N) : ∀ t : State, t.heap = H → s.WarmedH t.vm → lq_Qc G Q args s (.returned v) t := fun t ht _ => ⟨by rw [ht]; exact h.2.1, v, z, S, M, N, rfl, q, by rw [ht]; exact h.1⟩
theorem qw_ireturn {x : Int32} {ty : FieldType} (hr : Y.2.2.2.1 = some ty) (hn : narrow ty (.int x) = .int x) (hd : decode Y.2.1 pc = .ok (.ireturn, 1)) (q : Q (some (.int x)) z S M N) : LW G Y d kc ks Q X z S M N pc lv [.int x] :=
  fun p e R s m args below meth c H locs cells slots ls C => W.widen (Nat.le_trans (Nat.le_add_right _ _) C.2.2.2.2.1.1) (Nat.le_trans (Nat.le_add_right _ _) C.2.2.2.2.1.2.1) (vx_ret (W.zret C.1.1 C.1.2.1 (C.2.1.1.trans hr) hn (lq_retQ C.2.2.2.1 q) (fun l hl => C.2.2.2.1.2.2.2 l hl) hd C.2.1.2.1))
theorem qw_lreturn {x : Int64} (hr : Y.2.2.2.1 = some .long) (hd : decode Y.2.1 pc = .ok (.lreturn, 1)) (q : Q (some (.long x)) z S M N) : LW G Y d kc ks Q X z S M N pc lv [.long x] :=
  fun p e R s m args below meth c H locs cells slots ls C => W.widen (Nat.le_trans (Nat.le_add_right _ _) C.2.2.2.2.1.1) (Nat.le_trans (Nat.le_add_right _ _) C.2.2.2.2.1.2.1) (vx_ret (W.lret C.1.1 C.1.2.1 (C.2.1.1.trans hr) (lq_retQ C.2.2.2.1 q) (fun l hl => C.2.2.2.1.2.2.2 l hl) hd C.2.1.2.1))
theorem qw_areturn {a : Nat} {nm : String} (hr : Y.2.2.2.1 = some (.object nm)) (hd : decode Y.2.1 pc = .ok (.areturn, 1)) (q : Q (some (.ref a)) z S M N) : LW G Y d kc ks Q X z S M N pc lv [.ref a] :=
  fun p e R s m args below meth c H locs cells slots ls C => W.widen (Nat.le_trans (Nat.le_add_right _ _) C.2.2.2.2.1.1) (Nat.le_trans (Nat.le_add_right _ _) C.2.2.2.2.1.2.1) (vx_ret (W.aret C.1.1 C.1.2.1 (C.2.1.1.trans hr) (Or.inl ⟨nm, rfl⟩) (Or.inr ⟨a, rfl⟩) (lq_retQ C.2.2.2.1 q) (fun l hl => C.2.2.2.1.2.2.2 l hl) hd C.2.1.2.1))
theorem qw_return (hr : Y.2.2.2.1 = none) (hd : decode Y.2.1 pc = .ok (.return_, 1)) (q : Q none z S M N) : LW G Y d kc ks Q X z S M N pc lv [] :=
  fun p e R s m args below meth c H locs cells slots ls C => W.widen (Nat.le_trans (Nat.le_add_right _ _) C.2.2.2.2.1.1) (Nat.le_trans (Nat.le_add_right _ _) C.2.2.2.2.1.2.1) (vx_ret (W.vret C.1.1 C.1.2.1 (C.2.1.1.trans hr) (lq_retQ C.2.2.2.1 q) (fun l hl => C.2.2.2.1.2.2.2 l hl) hd C.2.1.2.1))
/-! cells: read, written -/
def lq_up {α : Type} (M : Nat → Nat → α) (a k : Nat) (v : α) : Nat → Nat → α := fun b => if b = a then fun j => if j = k then v else M a j else M b
theorem lq_up_s {α : Type} (M : Nat → Nat → α) (a k : Nat) (v : α) : lq_up M a k v a k = v := by simp [lq_up]
theorem lq_up_c {α : Type} (M : Nat → Nat → α) {a k j : Nat} (v : α) (h : j ≠ k) : lq_up M a k v a j = M a j := by simp [lq_up, h]
theorem lq_up_n {α : Type} (M : Nat → Nat → α) {a b : Nat} (k : Nat) (v : α) (h : b ≠ a) : lq_up M a k v b = M b := by simp [lq_up, h]
theorem lq_up_a {α : Type} (M : Nat → Nat → α) (a k : Nat) (v : α) : lq_up M a k v a = fun j => if j = k then v else M a j := by simp [lq_up]
def lq_us (S : lq_S) (a : Nat) (c : lq_C) : lq_S := fun b => if b = a then some c else S b
theorem lq_us_s (S : lq_S) (a : Nat) (c : lq_C) : lq_us S a c a = some c := by simp [lq_us]
theorem lq_us_n (S : lq_S) {a b : Nat} (c : lq_C) (h : b ≠ a) : lq_us S a c b = S b := by simp [lq_us, h]
theorem lq_fs_len : ∀ (l : List (Option (Option Nat))) (k : Nat) (m : Nat → Nat), (lq_fs l k m).length = l.length
  | [], _, _ => rfl
  | none :: t, k, m => by simp [lq_fs, lq_fs_len t (k + 1) m]
  | some r :: t, k, m => by simp [lq_fs, lq_fs_len t (k + 1) m]
theorem lq_fs_int : ∀ (l : List (Option (Option Nat))) (i k : Nat) (m : Nat → Nat), l[k]? = some none → (lq_fs l i m)[k]? = some (.int (nI (m (i + k))))
  | [], _, _, _, h => by simp at h
  | x :: t, i, 0, m, h => by
    simp at h
    subst h
    simp [lq_fs]
  | none :: t, i, k + 1, m, h => by simpa [lq_fs, Nat.add_comm, Nat.add_left_comm] using lq_fs_int t (i + 1) k m (by simpa using h)
  | some r :: t, i, k + 1, m, h => by simpa [lq_fs, Nat.add_comm, Nat.add_left_comm] using lq_fs_int t (i + 1) k m (by simpa using h)
theorem lq_fs_ref : ∀ (l : List (Option (Option Nat))) (i k : Nat) (m : Nat → Nat) (r : Option Nat), l[k]? = some (some r) → (lq_fs l i m)[k]? = some (va_rf r)
  | [], _, _, _, _, h => by simp at h
  | x :: t, i, 0, m, r, h => by
    simp at h
    subst h
    simp [lq_fs]
  | none :: t, i, k + 1, m, r, h => by simpa [lq_fs] using lq_fs_ref t (i + 1) k m r (by simpa using h)
  | some r0 :: t, i, k + 1, m, r, h => by simpa [lq_fs] using lq_fs_ref t (i + 1) k m r (by simpa using h)
theorem lq_fs_put : ∀ (l : List (Option (Option Nat))) (i k : Nat) (m m' : Nat → Nat) (v : Nat), l[k]? = some none → (∀ j, j ≠ i + k → m' j = m j) → m' (i + k) = v → (lq_fs l i m).set k (.int (nI v)) = lq_fs l i m'
  | [], _, _, _, _, _, h, _, _ => by simp at h
  | x :: t, i, 0, m, m', v, h, h1, h2 => by
    simp at h
    subst h
    have e : ∀ (t : List (Option (Option Nat))) (q : Nat), i < q → lq_fs t q m = lq_fs t q m' := by
      intro t
      induction t with
      | nil => intro q _; rfl
      | cons y t ih =>
        intro q hq
        cases y with
        | none => simp only [lq_fs]; rw [ih (q + 1) (by omega), h1 q (by omega)]
        | some r => simp only [lq_fs]; rw [ih (q + 1) (by omega)]
    simp only [lq_fs, List.set_cons_zero, Nat.add_zero] at h2 ⊢
    rw [h2, e t (i + 1) (by omega)]
  | none :: t, i, k + 1, m, m', v, h, h1, h2 => by
    simp only [lq_fs, List.set_cons_succ]
    rw [lq_fs_put t (i + 1) k m m' v (by simpa using h) (fun j hj => h1 j (by omega)) (by rw [← h2]; congr 1; omega), h1 i (by omega)]
  | some r :: t, i, k + 1, m, m', v, h, h1, h2 => by
    simp only [lq_fs, List.set_cons_succ]
    rw [lq_fs_put t (i + 1) k m m' v (by simpa using h) (fun j hj => h1 j (by omega)) (by rw [← h2]; congr 1; omega)]
theorem lq_fs_putr : ∀ (l : List (Option (Option Nat))) (i k : Nat) (m : Nat → Nat) (r0 r : Option Nat), l[k]? = some (some r0) → (lq_fs l i m).set k (va_rf r) = lq_fs (l.set k (some r)) i m
  | [], _, _, _, _, _, h => by simp at h
  | x :: t, i, 0, m, r0, r, h => by
    simp at h
    subst h
    simp [lq_fs]
  | none :: t, i, k + 1, m, r0, r, h => by simp only [lq_fs, List.set_cons_succ]; rw [lq_fs_putr t (i + 1) k m r0 r (by simpa using h)]
  | some q :: t, i, k + 1, m, r0, r, h => by simp only [lq_fs, List.set_cons_succ]; rw [lq_fs_putr t (i + 1) k m r0 r (by simpa using h)]
theorem lq_H.upd {H H1 : Heap} {S' : lq_S} {M' : lq_M} {N' : lq_N} {a : Nat} (h : lq_H G H z S M N) (hz : H1.size = H.size) (ho : ∀ q, q ≠ a → H1[q]? = H[q]?) (ha : lq_b G ≤ a) (hS : ∀ b, b ≠ a → S' b = S b) (hM : ∀ b, b ≠ a → M' b = M b) (hN : ∀ b, b ≠ a → N' b = N b) (hc : ∀ c, S' a = some c → va_at (lq_D G) lq_cl (a, lq_e G c (M' a) (N' a)) H1) : lq_H G H1 z S' M' N' := by
  obtain ⟨h1, h2, h3, h4⟩ := h
  refine ⟨hz.trans h1, h2, fun q hq => (ho q (by omega)).trans (h3 q hq), fun b c hb => ?_⟩
  by_cases hba : b = a
  · subst hba
    exact ⟨ha, hc c hb⟩
  · rw [hS b hba] at hb
    obtain ⟨g1, g2⟩ := h4 b c hb
    rw [hM b hba, hN b hba]
    exact ⟨g1, g2.kept (ho b hba)⟩
def lq_F (own : String) (idx ci k : Nat) (ty : FieldType) (fin : Bool) : Prop := ∃ (C : String) (T : u_T) (n : Nat) (ty0 : Nat → FieldType), lq_cl[ci]? = some (C, T, n) ∧ k < n ∧ (∀ w ∈ u_ws C T n, w ∈ lq_W) ∧ Cond.fieldLink own idx (T k).1 (T k).2.1 (T k).2.2.1 ∈ lq_W ∧ (∀ k, k < n → parseFieldDescriptor (T k).2.2.1 = some (ty0 k)) ∧ (∀ a, a < n → ∀ b, b < n → a ≠ b → (T a).2.1 ≠ (T b).2.1) ∧ (T k).2.2.2 = fin ∧ ty0 k = ty ∧ (T k).1 = C
theorem lq_get {idx ci i : Nat} {ty : FieldType} {fin : Bool} {a : Nat} {fl : List (Option (Option Nat))} {v : Value} (hF : lq_F Y.1.cls idx ci i ty fin) (hS : S a = some (.inl (ci, fl))) (hd : decode Y.2.1 pc = .ok (.getfield idx, 3)) (hv : (lq_fs fl 0 (M a))[i]? = some v) (k : LW G Y d kc ks Q X z S M N (pc + 3) lv (v :: st)) : LW G Y d kc ks Q X z S M N pc lv (.ref a :: st) := by
  intro p e R s m args below meth c H locs cells slots ls C
  obtain ⟨Cn, T, n, ty0, f1, f2, f3, f4, f5, f6, f7, f8, f9⟩ := hF
  obtain ⟨-, h2⟩ := C.2.2.2.1.1.2.2.2 a _ hS
  refine va_get C.1.1 C.1.2.1 (ws := [(a, .inr (ci, lq_fs fl 0 (M a)))]) (Ts := lq_W) C.1.2.2.2.2 f3 C.1.2.2.2.1 C.2.2.1.1.1 (fun j q hq => ?_) 0 rfl f1 i f2 (C.1.2.2.2.2 _ f4) (fun x hx => hx) hv hd (k p e R s m args below meth c H locs cells slots ls C)
  cases j with
  | zero => cases hq; exact h2
  | succ j => simp at hq
theorem qw_geti {idx ci i : Nat} {ty : FieldType} {fin : Bool} {a : Nat} {fl : List (Option (Option Nat))} (hF : lq_F Y.1.cls idx ci i ty fin) (hd : decode Y.2.1 pc = .ok (.getfield idx, 3)) (hS : S a = some (.inl (ci, fl))) (hk : fl[i]? = some none) (k : LW G Y d kc ks Q X z S M N (pc + 3) lv (.int (nI (M a i)) :: st)) : LW G Y d kc ks Q X z S M N pc lv (.ref a :: st) := lq_get hF hS hd ((lq_fs_int fl 0 i (M a) hk).trans (by rw [Nat.zero_add])) k
theorem qw_getr {idx ci i r : Nat} {ty : FieldType} {fin : Bool} {a : Nat} {fl : List (Option (Option Nat))} (hF : lq_F Y.1.cls idx ci i ty fin) (hd : decode Y.2.1 pc = .ok (.getfield idx, 3)) (hS : S a = some (.inl (ci, fl))) (hk : fl[i]? = some (some (some r))) (k : LW G Y d kc ks Q X z S M N (pc + 3) lv (.ref r :: st)) : LW G Y d kc ks Q X z S M N pc lv (.ref a :: st) := lq_get hF hS hd (lq_fs_ref fl 0 i (M a) _ hk) k
theorem lq_put {idx ci i : Nat} {ty : FieldType} {a : Nat} {fl fl' : List (Option (Option Nat))} {v : Value} {S' : lq_S} {M' : lq_M} (hF : lq_F Y.1.cls idx ci i ty false) (hS : S a = some (.inl (ci, fl))) (hd : decode Y.2.1 pc = .ok (.putfield idx, 3)) (hn : narrow ty v = v) (hfit : fits ty v = true) (hi : i < fl.length)
    (hS1 : S' a = some (.inl (ci, fl'))) (hS2 : ∀ b, b ≠ a → S' b = S b) (hM2 : ∀ b, b ≠ a → M' b = M b) (hv : (lq_fs fl 0 (M a)).set i v = lq_fs fl' 0 (M' a)) (k : LW G Y d kc ks Q X z S' M' N (pc + 3) lv st) : LW G Y d kc ks Q X z S M N pc lv (v :: .ref a :: st) := by
  intro p e R s m args below meth c H locs cells slots ls C
  obtain ⟨Cn, T, n, ty0, f1, f2, f3, f4, f5, f6, f7, f8, f9⟩ := hF
  obtain ⟨ha, h2⟩ := C.2.2.2.1.1.2.2.2 a _ hS
  obtain ⟨r, h1, cell, q1, q2, q3, q4⟩ := h2
  have hr : r = (Cn, T, n) := Option.some.inj (h1.symm.trans f1)
  subst hr
  have hap := va_apart (own := Y.1.cls) C.1.2.2.2.2 f3 ty0 f5 f6 C.2.2.1.1.1 f1
  obtain ⟨hSl, hfc, kC, hkC, hkind⟩ := C.2.2.1.1.1.1 ci _ f1
  obtain ⟨cf, kf, fi, f, hi2, hsl⟩ := hSl i f2
  have hlay := C.1.2.2.2.2 _ (f3 _ (u_in_lay f2))
  unfold u_lay at hlay
  rw [if_neg (by rw [f7]; decide)] at hlay
  have hst := (u_facts hfc hkC (u_lays C.1.2.2.2.2 f3 f2) hi2).1
  have h6 := u_store hfc hkC hkind hlay hi2 (f8 ▸ f5 i f2) hn hfit
  refine W.putK C.1.1 C.1.2.1 (f := f) ⟨C.1.2.2.2.1, C.1.2.2.2.2 _ f4, ⟨_, _, _, hi2⟩, hst⟩ (by rw [q2]; exact h6) q1 q3 (by rw [hsl]; exact k2_hasslot (q4 i f2)) rfl rfl hd fun H1 e1 e2 e3 => ?_
  rw [hsl] at e1
  refine k p e R s m args below meth c H1 _ cells slots ls ⟨C.1, C.2.1, C.2.2.1, ⟨C.2.2.2.1.1.upd e2 e3 ha hS2 hM2 (fun _ _ => rfl) (fun c9 h9 => ?_), C.2.2.2.1.2.put e2 e3 ha⟩, C.2.2.2.2.1, C.2.2.2.2.2⟩
  rw [hS1] at h9
  cases h9
  show va_at (lq_D G) lq_cl (a, .inr (ci, lq_fs fl' 0 (M' a))) H1
  refine ⟨_, f1, t_OB.to (V := updV (vp_V (lq_fs fl 0 (M a))) i v) ⟨_, e1, q2, q3, t_set q4 hap f2 v⟩ (fun j _ => ?_)⟩
  rw [vp_updV_set (by rw [lq_fs_len]; exact hi) v j, hv]
theorem qw_puti {idx ci i v : Nat} {a : Nat} {fl : List (Option (Option Nat))} (hF : lq_F Y.1.cls idx ci i .int false) (hd : decode Y.2.1 pc = .ok (.putfield idx, 3)) (hS : S a = some (.inl (ci, fl))) (hk : fl[i]? = some none) (k : LW G Y d kc ks Q X z S (lq_up M a i v) N (pc + 3) lv st) : LW G Y d kc ks Q X z S M N pc lv (.int (nI v) :: .ref a :: st) :=
  lq_put hF hS hd (vp_nar_int _) rfl (List.getElem?_eq_some_iff.mp hk).1 hS (fun _ _ => rfl) (fun b hb => lq_up_n M i v hb) (lq_fs_put fl 0 i (M a) _ v hk (fun j hj => lq_up_c M v (by omega)) (by rw [Nat.zero_add]; exact lq_up_s M a i v)) k
theorem qw_putz {idx ci i v : Nat} {a : Nat} {fl : List (Option (Option Nat))} (hF : lq_F Y.1.cls idx ci i .boolean false) (hd : decode Y.2.1 pc = .ok (.putfield idx, 3)) (hS : S a = some (.inl (ci, fl))) (hk : fl[i]? = some none) (hv : v = 0 ∨ v = 1) (k : LW G Y d kc ks Q X z S (lq_up M a i v) N (pc + 3) lv st) : LW G Y d kc ks Q X z S M N pc lv (.int (nI v) :: .ref a :: st) :=
  lq_put hF hS hd (by rcases hv with rfl | rfl <;> decide) (by rcases hv with rfl | rfl <;> decide) (List.getElem?_eq_some_iff.mp hk).1 hS (fun _ _ => rfl) (fun b hb => lq_up_n M i v hb) (lq_fs_put fl 0 i (M a) _ v hk (fun j hj => lq_up_c M v (by omega)) (by rw [Nat.zero_add]; exact lq_up_s M a i v)) k
theorem qw_putr {idx ci i r : Nat} {r0 : Option Nat} {ty : FieldType} {a : Nat} {fl : List (Option (Option Nat))} (hF : lq_F Y.1.cls idx ci i ty false) (hd : decode Y.2.1 pc = .ok (.putfield idx, 3)) (hn : narrow ty (.ref r) = .ref r) (hfit : fits ty (.ref r) = true) (hS : S a = some (.inl (ci, fl))) (hk : fl[i]? = some (some r0)) (k : LW G Y d kc ks Q X z (lq_us S a (.inl (ci, fl.set i (some (some r))))) M N (pc + 3) lv st) : LW G Y d kc ks Q X z S M N pc lv (.ref r :: .ref a :: st) :=
  lq_put hF hS hd hn hfit (List.getElem?_eq_some_iff.mp hk).1 (lq_us_s S a _) (fun b hb => lq_us_n S _ hb) (fun _ _ => rfl) (lq_fs_putr fl 0 i (M a) r0 (some r) hk) k
end LQ
