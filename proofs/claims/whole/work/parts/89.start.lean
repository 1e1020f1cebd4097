/-! THE CLAIM OUT OF ONE WALK OF THE LAW'S BODY. Your part is whole_start (and what it stands on); all else here is the same for every law, but numbers. -/
def R_law : String := "AdBreaksLaw"
def lw_P (b : Addr) (xs : List Int32) (args : Array Value) (s : State) : Prop := args = #[.ref b] ∧ s.IntsAt b xs ∧ xs.length ≤ 3072 ∧ (Jvm.Cond.and given_1 narrow_1).before args s = true
def lw_Q (_ : Array Value) (s : State) (o : Outcome) (t : State) : Prop := o = .returned (some (.int 1)) ∧ Framed s o t [] 601024 7293034
def lw_Z (below : List Frame) (a : Array Value) (s : State) : State → Prop := fun t => ∃ o, t.status = .running ∧ Ended t below o ∧ lw_Q a s o t
/-- the law's own end, with 1 on the stack, nothing written that was there before, its room as the claim has it -/
theorem lw_ret {p : Program} {l : Launch} {e : Env} {s : State} {m : MethodId} {below : List Frame} {meth : Method} {c : Code} {b : Nat} (hx : p.tables.exec = Jvm.exec) (hb : c.code = code) (hr : meth.sig.returnType = ret) (hlocks : meth.locks = false) {pc : Nat} {H : Heap} {ls : Array Slot} (hdg : decode code pc = .ok (.ireturn, 1)) : W p l e room_1 s m #[Value.ref b] below meth c H [] 601024 7293034 (lw_Z below #[Value.ref b] s) (F0 m pc ls [.int 1]) := by
  intro T hT X
  obtain ⟨fs, hret, hrun, hended, hW, hframe⟩ := X.leave (v := some (.int 1)) (hlocks := hlocks) (fun h => by rw [hr] at h; cases h)
  have hmeth' : T.vm.method? m = some meth := X.method'
  refine ⟨T.setFrames fs, ?_, .returned (some (.int 1)), hrun, hended, rfl, ⟨_, rfl⟩, hW, hframe⟩
  jvm_step X.here [X.here.top, hx, hb, hdg, hmeth', hr, ret, narrow_b1]
  (try refine ⟨rfl, ?_⟩); (try refine ⟨rfl, ?_⟩)
  first | (intro acts; rw [hret _ acts rfl rfl rfl]) | rw [hret _ _ rfl rfl rfl]
  exact Steps.refl _
/-- what holds at the law's entry: the machine, the code, the tables' words (any of lw_tbl by 'hts w (by decide +kernel)'), the script of L ints xs at the cell b, what the Statement gives of the start (any of its parts by flat_of_before) -/
def lw_At (p : Program) (s : State) (m : MethodId) (meth : Method) (c : Code) (b L : Nat) (xs : Nat → Int32) : Prop :=
  p.tables.exec = Jvm.exec ∧ c.code = code ∧ meth.sig.returnType = ret ∧ c.maxLocals = 7 ∧ s.vm.findClass R_law = some m.cls ∧ (∀ w ∈ lw_tbl, w.before #[Value.ref b] s = true) ∧ va_X b L xs s s.heap ∧ b < s.heap.size ∧ meth.locks = false ∧ (Jvm.Cond.and given_1 narrow_1).before #[Value.ref b] s = true ∧ meth.name = "law" ∧ c.exceptionTable.toList = []
theorem whole_start {p : Program} {e : Env} {s : State} {m : MethodId} {below : List Frame} {meth : Method} {c : Code} (l : Launch) (hflags : l.flags = flags0) {b L : Nat} {xs : Nat → Int32} (hL : L ≤ 3072) (C0 : lw_At p s m meth c b L xs) : W p l e room_1 s m #[Value.ref b] below meth c s.heap [] 0 0 (lw_Z below #[Value.ref b] s) (entryFrame m ([Value.ref b] : List Value).toArray 7) := by
  obtain ⟨hx, hb, hr, hml, hown, hts, hX, hbl, hlocks, hgv, hname, htab⟩ := C0
  obtain ⟨G, hl, hu, hK, hNC, hA, v, hXs⟩ := q_start hflags hts hgv
  have hsz : lq_b G = s.heap.size := by show (lq_u G).heap.size = _; rw [hu]
  have hX1 : va_X b L xs (lq_u G) (lq_u G).heap := by rw [hu]; exact hX
  have hH : lq_H G s.heap s.heap.size (fun _ => none) (fun _ _ => 0) (fun _ _ => 0) := ⟨rfl, by rw [hsz]; exact Nat.le_refl _, fun q hq => by rw [hu], fun a c h => by cases h⟩
  have hw := s_law (G := G) (a := b) (b := s.heap.size) (S := fun _ => none) (M := fun _ _ => 0) (N := fun _ _ => 0) hX1 hL hNC hA hXs (Q := fun r _ _ _ _ => r = some (.int (nI 1))) (fun _ _ _ _ => rfl)
  have he := lv_entry ([.ref b]) (n := 7) (Nat.le_of_ble_eq_true rfl)
  rw [lg_entry_eq]
  generalize (lg_sl ([.ref b]) ++ List.replicate (7 - (lg_sl ([.ref b])).length) Slot.unset).toArray = ls at he ⊢
  have hw2 := hw p e room_1 s m #[Value.ref b] below meth c s.heap [] 0 0 ls ⟨⟨hx, hb, hml, hown, fun w hw => hts w (List.mem_filter.mp hw).1⟩, ⟨hr, hlocks, hname, htab⟩, ⟨hK, by rw [hsz]; exact Nat.le_refl _⟩, ⟨hH, va_S.rf⟩, ⟨by decide, by decide, by decide, by decide⟩, he⟩
  rw [hl] at hw2
  intro T hT X
  obtain ⟨t, a1, o, b1, b2, b3⟩ := hw2 T hT X
  refine ⟨t, a1, o, b1, b2, ?_⟩
  rcases b3 with ⟨⟨-, r, z, S, M, N, ho, hq, -⟩, L9, hF, hfr⟩ | ⟨q, hq, E, ce, L9, hXC, -⟩
  · have hq2 : r = some (.int (nI 1)) := hq
    subst hq2
    obtain ⟨f1, f2, f3⟩ := hF
    exact ⟨ho, ⟨_, ho⟩, f2, State.sameButNew.drop_fresh (L := []) (J := L9) f3 (fun x hx => by have h := hfr x hx; rw [hsz] at h; exact h)⟩
  · obtain ⟨-, z, S, M, N, h, -⟩ := hXC
    exact h.elim
