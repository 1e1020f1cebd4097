/-! CONSTRUCTORS: arrays of arrays -/
def lq_zz {α : Type} (M : Nat → Nat → α) (z n : Nat) (v : α) : Nat → Nat → α := fun b => if z ≤ b ∧ b ≤ z + n then fun _ => v else M b
/-- an array of n arrays of k ints, at z -/
def lq_um (S : lq_S) (z n k : Nat) : lq_S := fun b => if b = z then some (.inr (.inr (3, n, fun i => if i < n then some (z + 1 + i) else none))) else if z < b ∧ b ≤ z + n then some (.inr (.inl (0, k))) else S b
theorem lq_AO {G : lq_G} {s : State} {args : Array Value} (hA : va_AOA .int (lq_u G)) (hK : lq_K G s) : (Cond.arrayOver (.array .int)).before args s = true := by
  have h := Cond.arrayOver_setVmC (args := args) (s := lq_u G) hK.2.1 (.array .int)
  exact h.trans hA
theorem lq_arI : Cond.arrayClass .int ∈ lq_W := lq_in (by decide +kernel) (by decide +kernel)
theorem lq_AO2 {G : lq_G} {s : State} {args : Array Value} {ty : FieldType} (hA : (Cond.arrayOver ty).before #[] (lq_u G) = true) (hK : lq_K G s) : (Cond.arrayOver ty).before args s = true := by
  have h := Cond.arrayOver_setVmC (args := args) (s := lq_u G) hK.2.1 ty
  exact h.trans hA
/-- the array classes over classes and arrays exist at the law's first state -/
def q_AO (G : lq_G) : Prop := va_AOA .int (lq_u G) ∧ (Cond.arrayOver (.object "AdBreaks$AdBreak")).before #[] (lq_u G) = true ∧ (Cond.arrayOver (.object "AdBreaks$Plan")).before #[] (lq_u G) = true
section MNA
variable {G : lq_G} {Y : lq_Y} {d kc ks z : Nat} {S : lq_S} {M : lq_M} {N : lq_N} {Q : lq_P} {X : lq_E} {pc : Nat} {lv : List (Option Value)} {st : List Value}
theorem qw_mna {idx n k : Nat} (hA : va_AOA .int (lq_u G)) (kc' ks' : Nat) (hw : Cond.classLink Y.1.cls idx "[[I" ∈ lq_W) (hd : decode Y.2.1 pc = .ok (.multianewarray idx 2, 4)) (hn : n < 1000000) (hk : k < 1000000) (h1 : kc' + (1 + n) ≤ kc) (h2 : ks' + (n + n * k) ≤ ks) (kk : LW G Y d kc' ks' Q X (z + 1 + n) (lq_um S z n k) (lq_zz M z n 0) (lq_zz N z n 0) (pc + 4) lv (.ref z :: st)) : LW G Y d kc ks Q X z S M N pc lv (.int (nI k) :: .int (nI n) :: st) := by
  intro p e R s m args below meth c H locs cells slots ls C T hT Xs
  have hz : H.size = z := C.2.2.2.1.1.1
  have hTz : T.heap.size = z := by rw [hT]; exact hz
  have hcn : (nI n).toNatClampNeg = n := nI_clamp (by omega)
  have hck : (nI k).toNatClampNeg = k := nI_clamp (by omega)
  have hW := C.1.2.2.2.2
  have hcb : componentBytes FieldType.int = 4 := rfl
  have hr1 := C.2.2.2.2.1.1
  have hr2 := C.2.2.2.2.1.2.1
  obtain ⟨vm₁, cA, comp, -, fA, fC, -, -, X', step⟩ := Xs.multianewarray2F (ty := .int) C.1.1 C.1.2.2.2.1 (hW _ hw) (lq_AO hA C.2.2.1.1) (hW _ lq_arI) (g := F0 m pc ls (.int (nI k) :: .int (nI n) :: st)) rfl (by rw [C.1.2.1]; exact hd) rfl (nI_pos (by omega)) (nI_pos (by omega)) (by rw [hcn]; omega) (by rw [hck, hcb]; omega) (by rw [hck]; omega) rfl rfl (by rw [hcn]; omega) (by rw [hcn, hck]; omega)
  rw [hcn, hck] at X' step
  have g3 : s.vm.findClass ("[" ++ (FieldType.array FieldType.int).toString) = some (lq_c G 3) := (C.2.2.1.1.1.2 3 _ rfl).2
  cases Option.some.inj (g3.symm.trans fA)
  have g0 : s.vm.findClass (FieldType.array FieldType.int).toString = some (lq_c G 0) := (C.2.2.1.1.1.2 0 _ rfl).2
  cases Option.some.inj (g0.symm.trans fC)
  generalize hF : Jvm.Free.Multi.fill (T.setVm vm₁) (lq_c G 3) (lq_c G 0) n k (defaultValue .int) n = F at X' step
  have hTh : (T.setVm vm₁).heap = H := hT
  obtain ⟨f1, f2, -, -⟩ := Jvm.Free.Multi.fill_facts (T.setVm vm₁) (lq_c G 3) (lq_c G 0) n k (defaultValue .int) n
  rw [hF, hTh, hz] at f1 f2
  have hold : ∀ x : Nat, x < z → F.heap[x]? = H[x]? := fun x hx => by
    have := Jvm.Free.Multi.fill_old (T.setVm vm₁) (lq_c G 3) (lq_c G 0) n k (defaultValue .int) (a := x) (by rw [hTh, hz]; exact hx) n
    rw [hF, hTh] at this
    exact this
  have hrow : ∀ j : Nat, j < n → F.heap[z + 1 + j]? = some (Jvm.Free.Multi.innerC (lq_c G 0) k (defaultValue .int)) := fun j hj => by
    have := Jvm.Free.Multi.fill_inner (T.setVm vm₁) (lq_c G 3) (lq_c G 0) n k (defaultValue .int) n j hj
    rw [hF, hTh, hz] at this
    exact this
  have hlt : ∀ {a : Nat} {c9 : lq_C}, S a = some c9 → a < z := fun q => C.2.2.2.1.1.lt q
  have hlb := C.2.2.2.1.1.2.1
  have hH1 : lq_H G F.heap (z + 1 + n) (lq_um S z n k) (lq_zz M z n 0) (lq_zz N z n 0) := by
    refine ⟨by rw [f1], by omega, fun q hq => (hold q (by omega)).trans (C.2.2.2.1.1.2.2.1 q hq), fun b c9 hb => ?_⟩
    by_cases e1 : b = z
    · subst e1
      rw [lq_um, if_pos rfl] at hb
      cases hb
      refine ⟨hlb, ?_⟩
      show F.heap[b]? = some (arrV (lq_c G 3) n (fun q => va_rf (if q < n then some (b + 1 + q) else none)))
      rw [f2, vr_outer]
    · by_cases e2 : z < b ∧ b ≤ z + n
      · rw [lq_um, if_neg e1, if_pos e2] at hb
        cases hb
        refine ⟨by omega, ?_⟩
        obtain ⟨j, rfl⟩ : ∃ j, b = z + 1 + j := ⟨b - (z + 1), by omega⟩
        show F.heap[z + 1 + j]? = some (arrV (lq_c G 0) k (fun q => .int (nI (lq_zz M z n 0 (z + 1 + j) q))))
        rw [hrow j (by omega)]
        have e3 : lq_zz M z n 0 (z + 1 + j) = fun _ => 0 := by unfold lq_zz; rw [if_pos (by omega)]
        rw [e3]
        exact congrArg some (arrV_new (lq_c G 0) k (.int 0))
      · rw [lq_um, if_neg e1, if_neg e2] at hb
        have hb9 := hlt hb
        obtain ⟨g1, g2⟩ := C.2.2.2.1.1.2.2.2 b c9 hb
        have e3 : lq_zz M z n 0 b = M b := by unfold lq_zz; rw [if_neg (by omega)]
        have e4 : lq_zz N z n 0 b = N b := by unfold lq_zz; rw [if_neg (by omega)]
        rw [e3, e4]
        exact ⟨g1, g2.kept (hold b hb9)⟩
  obtain ⟨t, a1, b1⟩ := kk p e R s m args below meth c F.heap locs (cells + 1 + n) (slots + n + n * k) ls ⟨C.1, C.2.1, C.2.2.1, ⟨hH1, lq_S1 C.2.2.2.1.2 (by omega) (fun q hq => hold q (by omega))⟩, ⟨by omega, by omega, C.2.2.2.2.1.2.2⟩, C.2.2.2.2.2⟩ F rfl X'
  refine ⟨t, step t ?_, b1⟩
  rw [hTz]
  exact a1
theorem qw_newr2 {n t idx : Nat} {Cn : String} (kc' ks' : Nat) (ht : (lq_ty G)[t]? = some (lq_c G t, .object Cn)) (hw : Cond.classLink Y.1.cls idx Cn ∈ lq_W) (hov : (Cond.arrayOver (.object Cn)).before #[] (lq_u G) = true) (hd : decode Y.2.1 pc = .ok (.anewarray idx, 3)) (hn : n < 1000000) (h1 : kc' + 1 ≤ kc) (h2 : ks' + n ≤ ks) (k : LW G Y d kc' ks' Q X (z + 1) (lq_us S z (.inr (.inr (t, n, fun _ => none)))) (lq_z M z 0) (lq_z N z 0) (pc + 3) lv (.ref z :: st)) : LW G Y d kc ks Q X z S M N pc lv (.int (nI n) :: st) := by
  intro p e R s m args below meth c H locs cells slots ls C
  have hz : H.size = z := C.2.2.2.1.1.1
  have hcl : (nI n).toNatClampNeg = n := nI_clamp (by omega)
  refine W.anew C.1.1 C.1.2.1 C.1.2.2.2.1 (C.1.2.2.2.2 _ hw) (lq_AO2 hov C.2.2.1.1) rfl hd rfl (nI_pos (by omega)) (by rw [hcl]; omega) (by have := C.2.2.2.2.1.1; omega) (by rw [hcl]; have := C.2.2.2.2.1.2.1; omega) fun cA kA comp f1 f2 f3 f4 => ?_
  obtain ⟨kA', comp', g1, g2, g3, g4⟩ := (C.2.2.1.1.1.2 t _ ht).2
  cases Option.some.inj (g4.symm.trans f1)
  rw [hcl]
  generalize hH1 : H.push ({ cls := lq_c G t, slots := Array.replicate n .null, vm := .none } : Cell) = H1
  have z1 : H1.size = H.size + 1 := by rw [← hH1, Array.size_push]
  have e1 : H1[H.size]? = some (arrV (lq_c G t) n (fun _ => .null)) := by rw [← hH1, Array.getElem?_push_size, ← arrV_new]
  have o1 : ∀ q, q < H.size → H1[q]? = H[q]? := fun q hq => by rw [← hH1, Array.getElem?_push_lt hq, Array.getElem?_eq_getElem hq]
  rw [hz] at e1
  rw [hz]
  exact k p e R s m args below meth c H1 locs _ _ ls ⟨C.1, C.2.1, C.2.2.1, ⟨C.2.2.2.1.1.born z1 o1 e1, lq_S1 C.2.2.2.1.2 (by omega) o1⟩, ⟨by have := C.2.2.2.2.1.1; omega, by have := C.2.2.2.2.1.2.1; omega, C.2.2.2.2.1.2.2⟩, C.2.2.2.2.2⟩
end MNA
