/-! THE START: what the Statement gives, said as the rows want it -/
theorem va_OFof {args : Array Value} {s : State} {t : Term} {o n d : String} {v : Value} {a : Nat} {A : Nat → Prop} (ht : t.eval args s none [] s = some (.ref a)) (hv : (Term.field t o n d).eval args s none [] s = some v) (hA : ∀ a : Nat, a < s.heap.size → ¬ A a) : va_OF o n d v a A s s.heap := by
  have h : s.fieldOf? a o n d = some v := by
    simpa [Term.eval, ht] using hv
  unfold State.fieldOf? at h
  cases hc : s.heap[a]? with
  | none => simp [hc] at h
  | some cell =>
    cases hf : s.fieldFound? o n d with
    | none => simp [hc, State.fieldNamed?, hf] at h
    | some q =>
      obtain ⟨cf, k, i, f⟩ := q
      by_cases hst : f.isStatic = false
      · simp [hc, State.fieldNamed?, hf, hst] at h
        refine ⟨cf, k, i, f, cell, hf, hst, hc, ?_, ?_, hA a (Array.getElem?_eq_some_iff.mp hc).1⟩
        · intro q; simp [q] at h
        · simp_all
      · simp [hc, State.fieldNamed?, hf, hst] at h
theorem u_kn0 {s : State} {args : Array Value} {C : String} {n : Nat} (h : (Cond.instantiable C n).before args s = true) : ∃ c : ClassId, u_Kn s C lq_T0 0 c (fun _ => 0) := by
  obtain ⟨c, k, h1, h2, h3, -⟩ := Cond.instantiable_spec h
  exact ⟨c, fun k hk => absurd hk (Nat.not_lt_zero k), h1, k, h2, h3⟩
theorem q_arr {s : State} {args : Array Value} {ty : FieldType} (h : (Cond.arrayClass ty).before args s = true) (hr : ∀ c, va_RA s c ty = (s.vm.findClass ("[" ++ ty.toString) = some c)) : ∃ c : ClassId, ArrOfT s c ty ∧ va_RA s c ty := by
  obtain ⟨c, k, comp, h1, h2, h3⟩ := Cond.arrayClass_spec h
  exact ⟨c, fun n z => ⟨(fun k h => by cases h), k, h2, comp, h3⟩, by rw [hr]; exact h1⟩
theorem q_arrA {s : State} {args : Array Value} {ty : FieldType} (h : (Cond.arrayOver (.array ty)).before args s = true) : ∃ c : ClassId, ArrOfT s c (.array ty) ∧ va_RA s c (.array ty) := by
  obtain ⟨comp, c, k, h1, h2, h3, h4⟩ := Cond.arrayOver_specA h
  exact ⟨c, fun n z => ⟨(fun k h => by cases h), k, h2, comp, h3⟩, h4⟩
theorem q_arrO {s : State} {args : Array Value} {C : String} (h : (Cond.arrayOver (.object C)).before args s = true) : ∃ c : ClassId, ArrOfT s c (.object C) ∧ va_RA s c (.object C) := by
  obtain ⟨comp, c, k, h1, h2, h3, h4, h5⟩ := Cond.arrayOver_spec h
  exact ⟨c, fun n z => ⟨(fun k h => by cases h), k, h3, comp, h4⟩, k, comp, h3, h4, h1, h5⟩
theorem q_str {s : State} {args : Array Value} {own tx : String} {k N : Nat} {bs : List Int32} {A : Nat → Prop} (hA : ∀ a : Nat, a < s.heap.size → ¬ A a) (hN : N < 2 ^ 31) (h0 : (Cond.stringRef own k tx).before args s = true) (h1 : (Cond.exactly (.string own k) "java/lang/String").before args s = true) (h2 : (Cond.eq (.field (.string own k) "java/lang/String" "coder" "B") (.int 0)).before args s = true) (h3 : (Cond.arrayOf (.field (.string own k) "java/lang/String" "value" "[B") .byte).before args s = true) (h4 : (Cond.eq (.length (.field (.string own k) "java/lang/String" "value" "[B")) (.int (Int32.ofNat N))).before args s = true) (h5 : ∀ j, j < N → (Cond.eq (.elem (.field (.string own k) "java/lang/String" "value" "[B") (.int (Int32.ofNat j))) (.int (bs.getD j 0))).before args s = true) : ∃ a v : Nat, vk_R own k tx a s ∧ va_O "java/lang/String" a A s s.heap ∧ va_OF "java/lang/String" "coder" "B" (.int 0) a A s s.heap ∧ va_OF "java/lang/String" "value" "[B" (.ref v) a A s s.heap ∧ va_T .byte v N (fun j => .int (bs.getD j 0)) A s s.heap := by
  obtain ⟨a, c, cell, kk, q1, -⟩ := Cond.exactly_spec (args := args) (first := s) (o := none) (s := s) (idx := []) (t := .string own k) (cls := "java/lang/String") h1
  obtain ⟨v, hv, hT⟩ := va_Tof (A := A) (f := fun j => .int (bs.getD j 0)) hN h3 (va_eqt h4) (fun j hj => va_eqt (h5 j hj)) hA
  exact ⟨a, v, vk_R.of h0 q1, va_Oof h1 q1 hA, va_OFof q1 (va_eqt h2) hA, va_OFof q1 hv hA, hT⟩
