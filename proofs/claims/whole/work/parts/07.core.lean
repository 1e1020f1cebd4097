section LQ3
variable {G : lq_G} {Y : lq_Y} {d kc ks z : Nat} {S : lq_S} {M : lq_M} {N : lq_N} {Q : lq_P} {X : lq_E} {pc : Nat} {lv : List (Option Value)} {st : List Value}
/-! making: the new cell is at z -/
def lq_z {α : Type} (M : Nat → Nat → α) (a : Nat) (v : α) : Nat → Nat → α := fun b => if b = a then fun _ => v else M b
theorem lq_z_s {α : Type} (M : Nat → Nat → α) (a : Nat) (v : α) : lq_z M a v a = fun _ => v := by simp [lq_z]
theorem lq_z_n {α : Type} (M : Nat → Nat → α) {a b : Nat} (v : α) (h : b ≠ a) : lq_z M a v b = M b := by simp [lq_z, h]
theorem lq_H.lt {H : Heap} (h : lq_H G H z S M N) {a : Nat} {c : lq_C} (hS : S a = some c) : a < z := by
  obtain ⟨h1, h2, h3, h4⟩ := h
  rw [← h1]
  exact (h4 a c hS).2.lt
theorem lq_H.born {H H1 : Heap} {c0 : lq_C} (h : lq_H G H z S M N) (hz : H1.size = H.size + 1) (ho : ∀ q, q < H.size → H1[q]? = H[q]?) (hc : va_at (lq_D G) lq_cl (z, lq_e G c0 (fun _ => 0) (fun _ => 0)) H1) : lq_H G H1 (z + 1) (lq_us S z c0) (lq_z M z 0) (lq_z N z 0) := by
  have hlt := fun {a : Nat} {c : lq_C} (q : S a = some c) => h.lt q
  obtain ⟨h1, h2, h3, h4⟩ := h
  refine ⟨by omega, by omega, fun q hq => (ho q (by omega)).trans (h3 q hq), fun b c hb => ?_⟩
  by_cases hba : b = z
  · subst hba
    rw [lq_us_s] at hb
    cases hb
    rw [lq_z_s, lq_z_s]
    exact ⟨h2, hc⟩
  · rw [lq_us_n S c0 hba] at hb
    rw [lq_z_n M 0 hba, lq_z_n N 0 hba]
    obtain ⟨g1, g2⟩ := h4 b c hb
    exact ⟨g1, g2.kept (ho b (by have := hlt hb; omega))⟩
theorem lq_S1 {s : State} {H H1 : Heap} {locs : List Loc} {A : Nat → Prop} (h : va_S A s.heap H locs) (hz : H.size ≤ H1.size) (ho : ∀ q, q < H.size → H1[q]? = H[q]?) : va_S A s.heap H1 locs :=
  ⟨Nat.le_trans h.1 hz, fun x h1 h2 => (ho x (Nat.lt_of_lt_of_le h1 h.1)).trans (h.2.1 x h1 h2), h.2.2⟩
def lq_nw (own : String) (idx ci : Nat) (fl : List (Option (Option Nat))) : Prop := ∃ (C : String) (T : u_T) (n : Nat) (ty0 : Nat → FieldType), lq_cl[ci]? = some (C, T, n) ∧ (∀ w ∈ u_ws C T n, w ∈ lq_W) ∧ Cond.classLink own idx C ∈ lq_W ∧ Cond.instantiable C n ∈ lq_W ∧ Cond.initialized C ∈ lq_W ∧ (∀ k, k < n → parseFieldDescriptor (T k).2.2.1 = some (ty0 k)) ∧ (∀ j, j < n → defaultValue (ty0 j) = vp_V (lq_fs fl 0 (fun _ => 0)) j) ∧ fl.length = n
theorem qw_new {idx ci : Nat} {fl : List (Option (Option Nat))} (kc' ks' : Nat) (hw : lq_nw Y.1.cls idx ci fl) (hd : decode Y.2.1 pc = .ok (.new idx, 3)) (h1 : kc' + 1 ≤ kc) (h2 : ks' + fl.length ≤ ks) (k : LW G Y d kc' ks' Q X (z + 1) (lq_us S z (.inl (ci, fl))) (lq_z M z 0) (lq_z N z 0) (pc + 3) lv (.ref z :: st)) : LW G Y d kc ks Q X z S M N pc lv st := by
  intro p e R s m args below meth c H locs cells slots ls C
  obtain ⟨Cn, T, n, ty0, f1, f2, f3, f4, f5, f6, f7, f8⟩ := hw
  have hz : H.size = z := C.2.2.2.1.1.1
  have hKn := C.2.2.1.1.1.1 ci _ f1
  refine W.newcK C.1.1 C.1.2.1 C.1.2.2.2.1 (C.1.2.2.2.2 _ f3) (C.1.2.2.2.2 _ f4) (C.1.2.2.2.2 _ f5) rfl hd (by have := C.2.2.2.2.1.1; omega) (by have := C.2.2.2.2.1.2.1; omega) hKn.2.1 hz fun H1 kC hkC e1 z1 o1 => ?_
  have e1' : H1[z]? = some (blank ((lq_D G).1 ci) kC) := e1
  refine k p e R s m args below meth c H1 locs _ _ ls ⟨C.1, C.2.1, C.2.2.1, ⟨C.2.2.2.1.1.born (by omega) (fun q hq => o1 q (by omega)) ?_, lq_S1 C.2.2.2.1.2 (by omega) (fun q hq => o1 q (by omega))⟩, ⟨by have := C.2.2.2.2.1.1; omega, by have := C.2.2.2.2.1.2.1; omega, C.2.2.2.2.1.2.2⟩, C.2.2.2.2.2⟩
  exact ⟨_, f1, (u_born ty0 C.1.2.2.2.2 f2 hKn hkC e1' f6).to f7⟩
theorem lq_newa {at0 : ArrayType} {ty : FieldType} {n : Nat} {c0 : lq_C} (kc' ks' : Nat) (hty : newarray.typeOf at0 = ty) (hw : Cond.arrayClass ty ∈ lq_W) (hd : decode Y.2.1 pc = .ok (.newarray at0, 2)) (hn : n < 1000000) (hcb : componentBytes ty ≤ 8) (h1 : kc' + 1 ≤ kc) (h2 : ks' + n ≤ ks) (hnm : ∀ s cA, lq_K G s → s.vm.findClass ("[" ++ ty.toString) = some cA → va_at (lq_D G) lq_cl (z, lq_e G c0 (fun _ => 0) (fun _ => 0)) = fun H1 => H1[z]? = some (arrV cA n (fun _ => defaultValue ty)))
    (k : LW G Y d kc' ks' Q X (z + 1) (lq_us S z c0) (lq_z M z 0) (lq_z N z 0) (pc + 2) lv (.ref z :: st)) : LW G Y d kc ks Q X z S M N pc lv (.int (nI n) :: st) := by
  intro p e R s m args below meth c H locs cells slots ls C
  subst hty
  have hz : H.size = z := C.2.2.2.1.1.1
  refine va_newaK C.1.1 C.1.2.1 (C.1.2.2.2.2 _ hw) rfl hd rfl (nI_pos (by omega)) (nI_clamp (by omega)) (Nat.le_trans (Nat.mul_le_mul_left n hcb) (by omega)) (by have := C.2.2.2.2.1.1; omega) (by have := C.2.2.2.2.1.2.1; omega) hz fun H1 cA e1 z1 o1 hAr hNm => ?_
  refine k p e R s m args below meth c H1 locs _ _ ls ⟨C.1, C.2.1, C.2.2.1, ⟨C.2.2.2.1.1.born (by omega) (fun q hq => o1 q (by omega)) ?_, lq_S1 C.2.2.2.1.2 (by omega) (fun q hq => o1 q (by omega))⟩, ⟨by have := C.2.2.2.2.1.1; omega, by have := C.2.2.2.2.1.2.1; omega, C.2.2.2.2.1.2.2⟩, C.2.2.2.2.2⟩
  rw [hnm s cA C.2.2.1.1 hNm]
  exact e1
theorem qw_newi {n : Nat} (kc' ks' : Nat) (hw : Cond.arrayClass .int ∈ lq_W) (hd : decode Y.2.1 pc = .ok (.newarray .int, 2)) (hn : n < 1000000) (h1 : kc' + 1 ≤ kc) (h2 : ks' + n ≤ ks) (k : LW G Y d kc' ks' Q X (z + 1) (lq_us S z (.inr (.inl (0, n)))) (lq_z M z 0) (lq_z N z 0) (pc + 2) lv (.ref z :: st)) : LW G Y d kc ks Q X z S M N pc lv (.int (nI n) :: st) :=
  lq_newa (at0 := .int) (ty := .int) kc' ks' rfl hw hd hn (by decide) h1 h2 (fun s cA hK hf => by
    have h9 : s.vm.findClass ("[" ++ FieldType.int.toString) = some (lq_c G 0) := (hK.1.2 0 _ rfl).2
    cases Option.some.inj (h9.symm.trans hf)
    rfl) k
theorem qw_newb {n : Nat} (kc' ks' : Nat) (hw : Cond.arrayClass .byte ∈ lq_W) (hd : decode Y.2.1 pc = .ok (.newarray .byte, 2)) (hn : n < 1000000) (h1 : kc' + 1 ≤ kc) (h2 : ks' + n ≤ ks) (k : LW G Y d kc' ks' Q X (z + 1) (lq_us S z (.inr (.inl (1, n)))) (lq_z M z 0) (lq_z N z 0) (pc + 2) lv (.ref z :: st)) : LW G Y d kc ks Q X z S M N pc lv (.int (nI n) :: st) :=
  lq_newa (at0 := .byte) (ty := .byte) kc' ks' rfl hw hd hn (by decide) h1 h2 (fun s cA hK hf => by
    have h9 : s.vm.findClass ("[" ++ FieldType.byte.toString) = some (lq_c G 1) := (hK.1.2 1 _ rfl).2
    cases Option.some.inj (h9.symm.trans hf)
    rfl) k
theorem qw_newl {n : Nat} (kc' ks' : Nat) (hw : Cond.arrayClass .long ∈ lq_W) (hd : decode Y.2.1 pc = .ok (.newarray .long, 2)) (hn : n < 1000000) (h1 : kc' + 1 ≤ kc) (h2 : ks' + n ≤ ks) (k : LW G Y d kc' ks' Q X (z + 1) (lq_us S z (.inr (.inl (2, n)))) (lq_z M z 0) (lq_z N z 0) (pc + 2) lv (.ref z :: st)) : LW G Y d kc ks Q X z S M N pc lv (.int (nI n) :: st) :=
  lq_newa (at0 := .long) (ty := .long) kc' ks' rfl hw hd hn (by decide) h1 h2 (fun s cA hK hf => by
    have h9 : s.vm.findClass ("[" ++ FieldType.long.toString) = some (lq_c G 2) := (hK.1.2 2 _ rfl).2
    cases Option.some.inj (h9.symm.trans hf)
    rfl) k
theorem qw_newr {n t idx : Nat} {Cn : String} (kc' ks' : Nat) (ht : (lq_ty G)[t]? = some (lq_c G t, .object Cn)) (hw : Cond.classLink Y.1.cls idx Cn ∈ lq_W) (hov : Cond.arrayOver (.object Cn) ∈ lq_W) (hd : decode Y.2.1 pc = .ok (.anewarray idx, 3)) (hn : n < 1000000) (h1 : kc' + 1 ≤ kc) (h2 : ks' + n ≤ ks) (k : LW G Y d kc' ks' Q X (z + 1) (lq_us S z (.inr (.inr (t, n, fun _ => none)))) (lq_z M z 0) (lq_z N z 0) (pc + 3) lv (.ref z :: st)) : LW G Y d kc ks Q X z S M N pc lv (.int (nI n) :: st) := by
  intro p e R s m args below meth c H locs cells slots ls C
  have hz : H.size = z := C.2.2.2.1.1.1
  have hcl : (nI n).toNatClampNeg = n := nI_clamp (by omega)
  refine W.anew C.1.1 C.1.2.1 C.1.2.2.2.1 (C.1.2.2.2.2 _ hw) (C.1.2.2.2.2 _ hov) rfl hd rfl (nI_pos (by omega)) (by rw [hcl]; omega) (by have := C.2.2.2.2.1.1; omega) (by rw [hcl]; have := C.2.2.2.2.1.2.1; omega) fun cA kA comp f1 f2 f3 f4 => ?_
  obtain ⟨kA', comp', g1, g2, g3, g4⟩ := (C.2.2.1.1.1.2 t _ ht).2
  cases Option.some.inj (g4.symm.trans f1)
  rw [hcl]
  generalize hH1 : H.push ({ cls := lq_c G t, slots := Array.replicate n .null, vm := .none } : Cell) = H1
  have z1 : H1.size = H.size + 1 := by rw [← hH1, Array.size_push]
  have e1 : H1[H.size]? = some (arrV (lq_c G t) n (fun _ => .null)) := by rw [← hH1, Array.getElem?_push_size, ← arrV_new]
  have o1 : ∀ q, q < H.size → H1[q]? = H[q]? := fun q hq => by rw [← hH1, Array.getElem?_push_lt hq, Array.getElem?_eq_getElem hq]
  rw [hz] at e1
  rw [hz]
  exact k p e R s m args below meth c H1 locs _ _ ls ⟨C.1, C.2.1, C.2.2.1, ⟨C.2.2.2.1.1.born z1 o1 e1, lq_S1 C.2.2.2.1.2 (by omega) o1⟩, ⟨by have := C.2.2.2.2.1.1; omega, by have := C.2.2.2.2.1.2.1; omega, C.2.2.2.2.1.2.2⟩, C.2.2.2.2.2⟩
/-- Object.<init> -/
theorem qw_objI {idx a : Nat} (hw : Cond.methodLink Y.1.cls idx Lib.objectInit ∈ lq_W) (hw2 : Cond.instanceMethod Lib.objectInit ∈ lq_W) (hw3 : Cond.code Lib.objectInit ⟨#[0xb1]⟩ 1 none ∈ lq_W) (hr : (st.map fun v => v.category).sum ≤ 8) (hd : decode Y.2.1 pc = .ok (.invokespecial idx, 3)) (k : LW G Y d kc ks Q X z S M N (pc + 3) lv st) : LW G Y d kc ks Q X z S M N pc lv (.ref a :: st) := by
  intro p e R s m args below meth c H locs cells slots ls C
  refine W.objInit C.1.1 C.1.2.1 C.1.2.2.2.1 (C.1.2.2.2.2 _ hw) (C.1.2.2.2.2 _ hw2) (C.1.2.2.2.2 _ hw3) rfl (C.2.2.2.2.2.1.trans C.1.2.2.1.symm) rfl hd (by have := C.2.2.2.2.1.2.2.1; omega) ?_ (k p e R s m args below meth c H locs cells slots ls C)
  have h9 := C.2.2.2.2.1.2.2.2
  show 2 * 0 + (st.map fun v => v.category).sum + 12 ≤ R.locals
  omega
/-- a final field, in the constructor -/
theorem lq_putF {idx ci i : Nat} {ty : FieldType} {a : Nat} {fl fl' : List (Option (Option Nat))} {v : Value} {S' : lq_S} {M' : lq_M} (hF : lq_F Y.1.cls idx ci i ty true) (hnm : Y.1.name = "<init>") (hown : (lq_cl[ci]?).map (fun q => q.1) = some Y.1.cls) (hS : S a = some (.inl (ci, fl))) (hd : decode Y.2.1 pc = .ok (.putfield idx, 3)) (hn : narrow ty v = v) (hfit : fits ty v = true) (hi : i < fl.length)
    (hS1 : S' a = some (.inl (ci, fl'))) (hS2 : ∀ b, b ≠ a → S' b = S b) (hM2 : ∀ b, b ≠ a → M' b = M b) (hv : (lq_fs fl 0 (M a)).set i v = lq_fs fl' 0 (M' a)) (k : LW G Y d kc ks Q X z S' M' N (pc + 3) lv st) : LW G Y d kc ks Q X z S M N pc lv (v :: .ref a :: st) := by
  intro p e R s m args below meth c H locs cells slots ls C
  obtain ⟨Cn, T, n, ty0, f1, f2, f3, f4, f5, f6, f7, f8, f9⟩ := hF
  obtain ⟨ha, h2⟩ := C.2.2.2.1.1.2.2.2 a _ hS
  obtain ⟨r, h1, cell, q1, q2, q3, q4⟩ := h2
  have hr : r = (Cn, T, n) := Option.some.inj (h1.symm.trans f1)
  subst hr
  have hap := va_apart (own := Y.1.cls) C.1.2.2.2.2 f3 ty0 f5 f6 C.2.2.1.1.1 f1
  obtain ⟨hSl, hfc, kC, hkC, hkind⟩ := C.2.2.1.1.1.1 ci _ f1
  obtain ⟨cf, kf, fi, f, hi2, hsl⟩ := hSl i f2
  have hlay := C.1.2.2.2.2 _ (f3 _ (u_in_lay f2))
  unfold u_lay at hlay
  rw [if_pos f7] at hlay
  have hst := (u_facts hfc hkC (u_lays C.1.2.2.2.2 f3 f2) hi2).1
  have hcn : Cn = Y.1.cls := by rw [f1] at hown; simpa using hown
  have hcf : m.cls = cf := by
    obtain ⟨_, _, c', _, _, _, -, -, hf', -, -, -, hown2, -⟩ := Cond.laysFinal_spec hlay
    have e1 : c' = cf := by have := hi2.symm.trans hf'; simp at this; exact this.1.symm
    rw [f9, hcn] at hown2
    rw [← e1]; exact Option.some.inj (C.1.2.2.2.1.symm.trans hown2)
  have h6 := u_fits hfc hkC hkind (Or.inr hlay) hi2 (f8 ▸ f5 i f2) hn hfit
  refine W.putFinK C.1.1 C.1.2.1 C.1.2.2.2.1 (C.1.2.2.2.2 _ f4) hi2 hst hcf (C.2.1.2.2.1.trans hnm) (by rw [q2]; exact h6) q1 q3 (by rw [hsl]; exact k2_hasslot (q4 i f2)) rfl rfl hd fun H1 e1 e2 e3 => ?_
  rw [hsl] at e1
  refine k p e R s m args below meth c H1 _ cells slots ls ⟨C.1, C.2.1, C.2.2.1, ⟨C.2.2.2.1.1.upd e2 e3 ha hS2 hM2 (fun _ _ => rfl) (fun c9 h9 => ?_), C.2.2.2.1.2.put e2 e3 ha⟩, C.2.2.2.2.1, C.2.2.2.2.2⟩
  rw [hS1] at h9
  cases h9
  show va_at (lq_D G) lq_cl (a, .inr (ci, lq_fs fl' 0 (M' a))) H1
  refine ⟨_, f1, t_OB.to (V := updV (vp_V (lq_fs fl 0 (M a))) i v) ⟨_, e1, q2, q3, t_set q4 hap f2 v⟩ (fun j _ => ?_)⟩
  rw [vp_updV_set (by rw [lq_fs_len]; exact hi) v j, hv]
theorem qw_putrF {idx ci i r : Nat} {r0 : Option Nat} {ty : FieldType} {a : Nat} {fl : List (Option (Option Nat))} (hF : lq_F Y.1.cls idx ci i ty true) (hnm : Y.1.name = "<init>") (hown : (lq_cl[ci]?).map (fun q => q.1) = some Y.1.cls) (hd : decode Y.2.1 pc = .ok (.putfield idx, 3)) (hn : narrow ty (.ref r) = .ref r) (hfit : fits ty (.ref r) = true) (hS : S a = some (.inl (ci, fl))) (hk : fl[i]? = some (some r0)) (k : LW G Y d kc ks Q X z (lq_us S a (.inl (ci, fl.set i (some (some r))))) M N (pc + 3) lv st) : LW G Y d kc ks Q X z S M N pc lv (.ref r :: .ref a :: st) :=
  lq_putF hF hnm hown hS hd hn hfit (List.getElem?_eq_some_iff.mp hk).1 (lq_us_s S a _) (fun b hb => lq_us_n S _ hb) (fun _ _ => rfl) (lq_fs_putr fl 0 i (M a) r0 (some r) hk) k
/-- an array of references takes an object -/
theorem qw_aast {a n j t v ci : Nat} {f : Nat → Option Nat} {fl : List (Option (Option Nat))} {Cn : String} {T : u_T} {nf : Nat} (hd : decode Y.2.1 pc = .ok (.aastore, 1)) (hS : S a = some (.inr (.inr (t, n, f)))) (ht : (lq_ty G)[t]? = some (lq_c G t, .object Cn)) (hv : S v = some (.inl (ci, fl))) (hci : lq_cl[ci]? = some (Cn, T, nf)) (hj : j < n) (hn : n < 2 ^ 31) (k : LW G Y d kc ks Q X z (lq_us S a (.inr (.inr (t, n, fun q => if q = j then some v else f q)))) M N (pc + 1) lv st) : LW G Y d kc ks Q X z S M N pc lv (.ref v :: .int (nI j) :: .ref a :: st) := by
  intro p e R s m args below meth c H locs cells slots ls C
  obtain ⟨ha, h2⟩ := C.2.2.2.1.1.2.2.2 a _ hS
  obtain ⟨-, r', hr', cellV, g1, g2, g3, -⟩ := C.2.2.2.1.1.2.2.2 v _ hv
  have hcls := (C.2.2.1.1.1.1 ci _ hci).2
  obtain ⟨kA, comp, k1, k2, k3, -⟩ := (C.2.2.1.1.1.2 t _ ht).2
  have hcomp : comp = (lq_D G).1 ci := Option.some.inj (k3.symm.trans hcls.1)
  subst hcomp
  obtain ⟨kC, hkC, -⟩ := hcls.2
  refine W.aast C.1.1 C.1.2.1 h2 (fun q h => by cases h) (fun h => by cases h) k1 k2 rfl hkC ⟨nI_pos (by omega), by show _ < (arrV _ _ _).slots.size; rw [arrV_size, nI_clamp (by omega)]; exact hj⟩ g1 (fun q h => by rw [g3] at h; cases h) (by rw [g2]; exact hkC) (by rw [g2]; exact va_assign hcls) rfl rfl hd fun H1 e1 e2 e3 => ?_
  refine k p e R s m args below meth c H1 _ cells slots ls ⟨C.1, C.2.1, C.2.2.1, ⟨C.2.2.2.1.1.upd e2 e3 ha (fun b hb => lq_us_n S _ hb) (fun _ _ => rfl) (fun _ _ => rfl) (fun c9 h9 => ?_), C.2.2.2.1.2.put e2 e3 ha⟩, C.2.2.2.2.1, C.2.2.2.2.2⟩
  rw [lq_us_s] at h9
  cases h9
  show H1[a]? = some (arrV (lq_c G t) n (fun q => va_rf (if q = j then some v else f q)))
  rw [e1, nI_clamp (by omega)]
  refine congrArg some (Eq.trans (arrV_store (lq_c G t) n j (fun q => va_rf (f q)) (.ref v)) (congrArg (arrV (lq_c G t) n) (funext fun q => ?_)))
  by_cases hq : q = j
  · simp [updV, hq, va_rf]
  · simp [updV, hq]
/-! METHODS -/
def LM (G : lq_G) (Y : lq_Y) (d kc ks : Nat) (args : List Value) (z : Nat) (S : lq_S) (M : lq_M) (N : lq_N) (Q : lq_P) (X : lq_E) : Prop :=
  vx_Met (lq_l G) Y.1 (.code Y.1 Y.2.1 Y.2.2.1 Y.2.2.2.1 :: lq_W) (lq_room d kc ks) (fun v U => v = args.toArray ∧ lq_K G U ∧ lq_H G U.heap z S M N) (lq_Qc G Q) (lq_XC G X) kc ks (fun q => lq_b G ≤ q)
theorem lq_K.moved {U V : State} (h : lq_K G U) (hW : U.WarmedH V.vm) : lq_K G V := ⟨va_K.moved hW.alike h.1, h.2.1.trans hW.alike, h.2.2.1, fun i q hq => vk_R.warm hW (h.2.2.2 i q hq)⟩
theorem lq_K.calling {U : State} {g : JFrame} {mk : MethodId} {a : Array Value} (h : lq_K G U) : lq_K G (U.calling g mk a) := ⟨va_K.moved (u := U) (U := U.calling g mk a) (Vm.Alike.refl U.vm) h.1, h.2.1, h.2.2.1, fun i q hq => vk_R.same (u := U) rfl (h.2.2.2 i q hq)⟩
theorem LM.of {args : List Value} (hp : plainName Y.1.cls = true) (hT : Y.2.2.2.2 = []) (lv : List (Option Value)) (hl : lq_pr lv 0 = lv_args 0 args) (hn : (lg_sl args).length ≤ Y.2.2.1) (body : LW G Y d kc ks Q X z S M N 0 lv []) : LM G Y d kc ks args z S M N Q X := by
  refine vx_ofW (cc := Y.2.1) (maxL := Y.2.2.1) (ret := Y.2.2.2.1) hp rfl ?_
  intro p e s m a9 below meth c s₁ B hml ht hP
  obtain ⟨rfl, hK, hH⟩ := hP
  rw [lg_entry_eq]
  have hpre := atoms_spec (ws := Cond.code Y.1 Y.2.1 Y.2.2.1 Y.2.2.2.1 :: lq_W) B.pre
  have hb : lq_b G ≤ s.heap.size := by have := hH.1; have := hH.2.1; omega
  refine body p e (lq_room d kc ks) s m args.toArray below meth c s.heap [] 0 0 _ ⟨⟨B.exec, B.bytes, hml, findClass_of_methodNamed B.named, fun w hw => hpre w (List.mem_cons_of_mem _ hw)⟩, ⟨B.returns, B.notSynchronized, (name_of_methodNamed B.named B.method).1, ?_⟩, ⟨hK, hb⟩, ⟨hH, va_S.rf⟩, ⟨Nat.le_of_eq (Nat.zero_add _), Nat.le_of_eq (Nat.zero_add _), Nat.le_refl _, Nat.le_refl _⟩, ?_⟩
  · rw [hT]
    cases h9 : c.exceptionTable.toList with
    | nil => rfl
    | cons x t => exact (ht x (by rw [h9]; exact List.mem_cons_self)).elim
  · rw [hl]
    exact lv_entry args hn
end LQ3
