/-! exceptions that the class throws: 'castable' and 'declares' are no steady words: they come out of what is known of the classes and out of other words -/
def vx_atX (own : String) (ic : Nat) (X : String) (ix : Nat) (rx : ByteArray) (names : List String) : List Cond := (Bundle.ownAtomsX own ic X ix rx names).filter vx_no
def tRX : ByteArray := ⟨#[0x2a, 0x2b, 0xb7, 0x00, 0x0d, 0xb1]⟩
theorem tD_re : Cond.instanceMethod (Bundle.initS "java/lang/RuntimeException") ∈ lq_W ∧ Cond.code (Bundle.initS "java/lang/RuntimeException") Bundle.six 2 none ∈ lq_W := ⟨lq_in (by decide +kernel) (by decide +kernel), lq_in (by decide +kernel) (by decide +kernel)⟩
theorem tD_ex : Cond.instanceMethod (Bundle.initS "java/lang/Exception") ∈ lq_W ∧ Cond.code (Bundle.initS "java/lang/Exception") Bundle.six 2 none ∈ lq_W := ⟨lq_in (by decide +kernel) (by decide +kernel), lq_in (by decide +kernel) (by decide +kernel)⟩
theorem tD_th : Cond.instanceMethod (Bundle.initS Bundle.tN) ∈ lq_W ∧ Cond.code (Bundle.initS Bundle.tN) LibCode.Throwable.InitS.code 2 none ∈ lq_W := ⟨lq_in (by decide +kernel) (by decide +kernel), lq_in (by decide +kernel) (by decide +kernel)⟩
theorem tA_IOOBE : ∀ w ∈ (vx_atS RX8 201 "java/lang/IndexOutOfBoundsException" ["java/lang/RuntimeException", "java/lang/Exception"]).filter goodWord, w ∈ lq_W := fun w h => lq_in ((show ∀ w ∈ (vx_atS RX8 201 "java/lang/IndexOutOfBoundsException" ["java/lang/RuntimeException", "java/lang/Exception"]).filter goodWord, w ∈ lw_tbl by decide +kernel) w h) (List.mem_filter.mp h).2
theorem tB_IOOBE : ∀ w ∈ (vx_atS RX8 201 "java/lang/IndexOutOfBoundsException" ["java/lang/RuntimeException", "java/lang/Exception"]).filter (fun w => !goodWord w), w ∈ [Cond.castable "java/lang/IndexOutOfBoundsException" "java/lang/IndexOutOfBoundsException", Cond.declares (Bundle.initS "java/lang/RuntimeException"), Cond.declares (Bundle.initS "java/lang/Exception"), Cond.declares (Bundle.initS Bundle.tN)] := by decide +kernel
theorem tK_IOOBE : Cond.classLink RX8 197 "java/lang/IndexOutOfBoundsException" ∈ lq_W := lq_in (by decide +kernel) (by decide +kernel)
theorem tI_IOOBE : Cond.initialized "java/lang/IndexOutOfBoundsException" ∈ lq_W := lq_in (by decide +kernel) (by decide +kernel)
theorem tF_IOOBE : Bundle.fit "java/lang/IndexOutOfBoundsException" = true := by decide +kernel
theorem tA_NSEE : ∀ w ∈ (vx_atX RX8 266 "java/util/NoSuchElementException" 13 tRX ["java/lang/RuntimeException", "java/lang/Exception"]).filter goodWord, w ∈ lq_W := fun w h => lq_in ((show ∀ w ∈ (vx_atX RX8 266 "java/util/NoSuchElementException" 13 tRX ["java/lang/RuntimeException", "java/lang/Exception"]).filter goodWord, w ∈ lw_tbl by decide +kernel) w h) (List.mem_filter.mp h).2
theorem tB_NSEE : ∀ w ∈ (vx_atX RX8 266 "java/util/NoSuchElementException" 13 tRX ["java/lang/RuntimeException", "java/lang/Exception"]).filter (fun w => !goodWord w), w ∈ [Cond.castable "java/util/NoSuchElementException" "java/util/NoSuchElementException", Cond.declares (Bundle.initS "java/lang/RuntimeException"), Cond.declares (Bundle.initS "java/lang/Exception"), Cond.declares (Bundle.initS Bundle.tN)] := by decide +kernel
theorem tK_NSEE : Cond.classLink RX8 262 "java/util/NoSuchElementException" ∈ lq_W := lq_in (by decide +kernel) (by decide +kernel)
theorem tI_NSEE : Cond.initialized "java/util/NoSuchElementException" ∈ lq_W := lq_in (by decide +kernel) (by decide +kernel)
theorem tF_NSEE : Bundle.fit "java/util/NoSuchElementException" = true := by decide +kernel
theorem tA_IAE : ∀ w ∈ (vx_atS RX8 56 "java/lang/IllegalArgumentException" ["java/lang/RuntimeException", "java/lang/Exception"]).filter goodWord, w ∈ lq_W := fun w h => lq_in ((show ∀ w ∈ (vx_atS RX8 56 "java/lang/IllegalArgumentException" ["java/lang/RuntimeException", "java/lang/Exception"]).filter goodWord, w ∈ lw_tbl by decide +kernel) w h) (List.mem_filter.mp h).2
theorem tB_IAE : ∀ w ∈ (vx_atS RX8 56 "java/lang/IllegalArgumentException" ["java/lang/RuntimeException", "java/lang/Exception"]).filter (fun w => !goodWord w), w ∈ [Cond.castable "java/lang/IllegalArgumentException" "java/lang/IllegalArgumentException", Cond.declares (Bundle.initS "java/lang/RuntimeException"), Cond.declares (Bundle.initS "java/lang/Exception"), Cond.declares (Bundle.initS Bundle.tN)] := by decide +kernel
theorem tK_IAE : Cond.classLink RX8 52 "java/lang/IllegalArgumentException" ∈ lq_W := lq_in (by decide +kernel) (by decide +kernel)
theorem tI_IAE : Cond.initialized "java/lang/IllegalArgumentException" ∈ lq_W := lq_in (by decide +kernel) (by decide +kernel)
theorem tF_IAE : Bundle.fit "java/lang/IllegalArgumentException" = true := by decide +kernel
theorem tA_ISE : ∀ w ∈ (vx_atS RX8 229 "java/lang/IllegalStateException" ["java/lang/RuntimeException", "java/lang/Exception"]).filter goodWord, w ∈ lq_W := fun w h => lq_in ((show ∀ w ∈ (vx_atS RX8 229 "java/lang/IllegalStateException" ["java/lang/RuntimeException", "java/lang/Exception"]).filter goodWord, w ∈ lw_tbl by decide +kernel) w h) (List.mem_filter.mp h).2
theorem tB_ISE : ∀ w ∈ (vx_atS RX8 229 "java/lang/IllegalStateException" ["java/lang/RuntimeException", "java/lang/Exception"]).filter (fun w => !goodWord w), w ∈ [Cond.castable "java/lang/IllegalStateException" "java/lang/IllegalStateException", Cond.declares (Bundle.initS "java/lang/RuntimeException"), Cond.declares (Bundle.initS "java/lang/Exception"), Cond.declares (Bundle.initS Bundle.tN)] := by decide +kernel
theorem tK_ISE : Cond.classLink RX8 225 "java/lang/IllegalStateException" ∈ lq_W := lq_in (by decide +kernel) (by decide +kernel)
theorem tI_ISE : Cond.initialized "java/lang/IllegalStateException" ∈ lq_W := lq_in (by decide +kernel) (by decide +kernel)
theorem tF_ISE : Bundle.fit "java/lang/IllegalStateException" = true := by decide +kernel
theorem tN : ∀ n ∈ ["java/lang/RuntimeException", "java/lang/Exception"], Bundle.fit n = true := by decide +kernel
section LQT0
variable {G : lq_G}
theorem lq_castable {s : State} {args : Array Value} {ci : Nat} {cls : String} (hK : lq_K G s) (hok : (lq_cl[ci]?) = some (cls, lq_T0, 0)) : (Cond.castable cls cls).before args s = true := by
  have h := (hK.1.1 ci _ hok).2
  have h1 : s.vm.findClass cls = some ((lq_D G).1 ci) := h.1
  have h2 := va_assign h
  simp [Cond.before, Cond.holds, Cond.value, h1, h2]
theorem lq_declares {s : State} {args : Array Value} {x : MethodName} {b : ByteArray} {n : Nat} {r : Option FieldType} (h1 : (Cond.instanceMethod x).before args s = true) (h2 : (Cond.code x b n r).before args s = true) : (Cond.declares x).before args s = true := by
  obtain ⟨m, meth, e1, e2, e3, -⟩ := Cond.instanceMethod_spec h1
  obtain ⟨meth', c, e4, -, -, -, -, -, -, e5⟩ := Cond.code_spec e1 h2
  cases e2.symm.trans e4
  simp [Cond.before, Cond.holds, Cond.value, e1, e2, e3, e5]
/-- what is needed of an exception's class, and is no steady word -/
def lq_xb (cls : String) (w : Cond) : Prop := w ∈ [Cond.castable cls cls, Cond.declares (Bundle.initS "java/lang/RuntimeException"), Cond.declares (Bundle.initS "java/lang/Exception"), Cond.declares (Bundle.initS Bundle.tN)]
theorem lq_xb_at {s : State} {args : Array Value} {ci : Nat} {cls : String} (hK : lq_K G s) (hW : ∀ w ∈ lq_W, w.before args s = true) (hok : (lq_cl[ci]?) = some (cls, lq_T0, 0)) {w : Cond} (h : lq_xb cls w) : w.before args s = true ∧ vx_ot w = true := by
  rcases List.mem_cons.mp h with e | h
  · rw [e]; exact ⟨lq_castable hK hok, rfl⟩
  · rcases List.mem_cons.mp h with e | h
    · rw [e]; exact ⟨lq_declares (hW _ tD_re.1) (hW _ tD_re.2), rfl⟩
    · rcases List.mem_cons.mp h with e | h
      · rw [e]; exact ⟨lq_declares (hW _ tD_ex.1) (hW _ tD_ex.2), rfl⟩
      · rw [List.mem_singleton.mp h]; exact ⟨lq_declares (hW _ tD_th.1) (hW _ tD_th.2), rfl⟩
theorem lq_xall {L : List Cond} {s : State} {args : Array Value} {ci : Nat} {cls : String} (hK : lq_K G s) (hW : ∀ w ∈ lq_W, w.before args s = true) (hok : (lq_cl[ci]?) = some (cls, lq_T0, 0)) (hat : ∀ w ∈ L.filter goodWord, w ∈ lq_W) (hca : ∀ w ∈ L.filter (fun w => !goodWord w), lq_xb cls w) : ∀ w ∈ L, w.before args s = true ∧ vx_ot w = true := by
  intro w hw
  cases g : goodWord w
  · exact lq_xb_at hK hW hok (hca w (List.mem_filter.mpr ⟨hw, by rw [g]; rfl⟩))
  · refine ⟨hW w (hat w (List.mem_filter.mpr ⟨hw, g⟩)), ?_⟩
    unfold vx_ot
    rw [g]
    exact Bool.or_true _
end LQT0
section VXKX
variable {p : Program} {l : Launch} {e : Env} {R : Room} {s : State} {m₀ : MethodId} {args : Array Value} {below : List Frame} {meth : Method} {c : Code} {W : State} {locs : List Loc} {cells slots : Nat}
set_option maxHeartbeats 1000000 in
theorem vx_ctorMadeSX (X : Stand p l e R s m₀ args below meth c W locs cells slots) (hexec : p.tables.exec = Jvm.exec) (htr : e.platform.stackTraces = false) {own cls : String} {names : List String} {ic : Nat} {ix : Nat} {rx : ByteArray} (x0 : decode rx 0 = .ok (.aload_n 0, 1)) (x1 : decode rx 1 = .ok (.aload_n 1, 1)) (x2 : decode rx 2 = .ok (.invokespecial ix, 3)) (x5 : decode rx 5 = .ok (.return_, 1))
    (hown : s.vm.findClass own = some m₀.cls) (hcls : Bundle.fit cls = true) (hnames : ∀ n ∈ names, Bundle.fit n = true)
    (h : ∀ a ∈ Bundle.ownAtomsX own ic cls ix rx names, a.before args s = true)
    (hlocs : ∀ x ∈ locs, ∀ cell, s.heap[x.base]? = some cell → cell.vm.isStatics = false)
    {a : Addr} {cX : ClassId} {kX : Class} (hfoundX : s.vm.findClass cls = some cX) (hkX : s.vm.classes[cX]? = some kX) (hcell : W.heap[a]? = some (freshCell cX kX)) (hnew : s.heap.size ≤ a)
    {msg : Value} (hmsg : msg.isRef = true)
    {g : JFrame} (hg : g.method = m₀) (hsize : g.locals.size = c.maxLocals) {rest : List Value} (hstack : g.stack = msg :: .ref a :: .ref a :: rest)
    (hd6 : decode c.code g.pc = .ok (.invokespecial ic, 3))
    (hRframes : names.length + 3 < R.frames) (hRlocals : 2 * g.monitorRoom + ((Value.ref a :: rest).map fun v => v.category).sum + (13 * (names.length + 1) + 42) ≤ R.locals) :
    ∃ (V : State) (ce : Cell) (L : List Loc), Stand p l e R s m₀ args below meth c (V.setCell a ce) (locs ++ L) cells slots ∧ (∀ y ∈ L, y.base = a) ∧ a < V.heap.size ∧ ce.cls = cX ∧ ce.vm = .none ∧
      ∀ target, Steps p.tables e below ((V.setCell a ce).setTop { g with stack := .ref a :: rest, pc := g.pc + 3 }) target → Steps p.tables e below (W.setTop g) target := by
  have howns : e.platform.frameOwnsMonitors = true := by rw [X.admits.platform]
  have hfin : e.platform.finalization = false := by rw [X.admits.platform]
  have hpl : e.platform.magicAccessors = ({} : Platform).magicAccessors := by rw [X.admits.platform]
  have a' : ∀ x, x ∈ Bundle.ownAtomsX own ic cls ix rx names → x.holds args s none s [] = true := fun x hx => h x hx
  obtain ⟨T, Z0, L, -, Y⟩ := ThrowableC.of_atoms (args := args) howns hfin hpl (fun x hx => h x (by simp [Bundle.ownAtomsX, hx]))
  obtain ⟨Z, M, LZ, LM, hnZ⟩ := Init0T.ofS_atoms (args := args) hpl L Y (fun x hx => h x (by simp [Bundle.ownAtomsX, hx]))
  obtain ⟨P1, Ps, hlen, L1, hL, hP1m, hlink1, hlink⟩ := Bundle.chainSX (args := args) hpl hnZ x0 x1 x2 x5 names cls hcls hnames (fun x hx => h x (by simp [Bundle.ownAtomsX, hx]))
  have hfound : s.vm.findClass cls = some P1.m.cls := findClass_of_methodNamed hP1m
  cases Option.some.inj (hfoundX.symm.trans hfound)
  obtain ⟨c1, kX', hc1, hk, hord, -, -, hn6⟩ := Cond.instantiable_spec (a' (.instantiable cls 6) (by simp [Bundle.ownAtomsX]))
  cases Option.some.inj (hc1.symm.trans hfound)
  cases Option.some.inj (hkX.symm.trans hk)
  have hsel0 : selectMethod e.platform s.vm P1.m.cls T.fill0 = .method T.fill0 := by
    obtain ⟨c2, r2, m2, q1, q2, q3, q4, -⟩ := Cond.selects_spec (a' (.selects cls Bundle.tFill0 Bundle.tFill0) (by simp [Bundle.ownAtomsX]))
    cases Option.some.inj (q1.symm.trans hfound)
    cases Option.some.inj (q2.symm.trans (State.methodFound?_of_named Y.fill0 (by decide)))
    cases Option.some.inj (q3.symm.trans Y.fill0)
    rw [Launch.admits_selectMethod X.admits]; exact q4
  have hselF : selectMethod e.platform s.vm P1.m.cls T.fill = .method T.fill := by
    obtain ⟨c2, r2, m2, q1, q2, q3, q4, -⟩ := Cond.selects_spec (a' (.selects cls Bundle.tFill Bundle.tFill) (by simp [Bundle.ownAtomsX]))
    cases Option.some.inj (q1.symm.trans hfound)
    cases Option.some.inj (q2.symm.trans (State.methodFound?_of_named Y.fill (by decide)))
    cases Option.some.inj (q3.symm.trans Y.fill)
    rw [Launch.admits_selectMethod X.admits]; exact q4
  obtain ⟨cellS0, hcS0, hiss⟩ := Y.statics
  obtain ⟨u0, hu0⟩ := Cond.staticRefV Y.unassigned L.unassignedStatic L.statics hcS0 hiss (a' (.isRef (.static Bundle.tN "UNASSIGNED_STACK" Bundle.steD)) (by simp [Bundle.ownAtomsX]))
  obtain ⟨sen, hsen⟩ := Cond.staticRefV Y.sentinel L.sentinelStatic L.statics hcS0 hiss (a' (.isRef (.static Bundle.tN "SUPPRESSED_SENTINEL" Bundle.listD)) (by simp [Bundle.ownAtomsX]))
  obtain ⟨ci198, i198, fB, hk198, hg198, ha198, hsB, -, hnB, htB, hffB⟩ := Cond.ownField (t := .object "java/lang/Object") Y.found L.cls (by decide +kernel) (a' (.fieldLink Bundle.tN 198 Bundle.tN "backtrace" "Ljava/lang/Object;") (by simp [Bundle.ownAtomsX])) (a' (.lays Bundle.tN Bundle.tN "backtrace" "Ljava/lang/Object;") (by simp [Bundle.ownAtomsX])) e.platform hpl
  obtain ⟨cellS, hcS', heS, -, hkeep⟩ := X.same.2.2.2.2.2 T.aS cellS0 hcS0
  have hcellS : W.heap[T.aS]? = some cellS := hcS'
  have hout' : ∀ i, (⟨T.aS, i⟩ : Loc) ∉ locs := fun i hmem => by
    have := hlocs _ hmem cellS0 hcS0
    rw [hiss] at this; cases this
  have hknownS : cellS.vm ≠ .unknown := by
    rw [heS]; intro hu
    rw [show cellS0.vm = .unknown from hu] at hiss
    cases hiss
  have hneS : T.aS ≠ a := Nat.ne_of_lt (Nat.lt_of_lt_of_le (Array.getElem?_eq_some_iff.mp hcS0).1 hnew)
  obtain ⟨iM, hffM⟩ := Y.msg
  obtain ⟨tyC, dC, hdC, hdnC⟩ := Cond.laysAt hfound hk Y.cause (a' (.lays cls Bundle.tN "cause" "Ljava/lang/Throwable;") (by simp [Bundle.ownAtomsX]))
  obtain ⟨tyS, dS, hdS, hdnS⟩ := Cond.laysAt hfound hk Y.stack (a' (.lays cls Bundle.tN "stackTrace" Bundle.steD) (by simp [Bundle.ownAtomsX]))
  obtain ⟨tyP, dP, hdP, hdnP⟩ := Cond.laysAt hfound hk Y.supp (a' (.lays cls Bundle.tN "suppressedExceptions" Bundle.listD) (by simp [Bundle.ownAtomsX]))
  obtain ⟨tyM, dM, hdM, hdnM⟩ := Cond.laysAt hfound hk hffM (a' (.lays cls Bundle.tN "detailMessage" "Ljava/lang/String;") (by simp [Bundle.ownAtomsX]))
  obtain ⟨tyB, dB, hdB, hdnB⟩ := Cond.laysAt hfound hk hffB (a' (.lays cls Bundle.tN "backtrace" "Ljava/lang/Object;") (by simp [Bundle.ownAtomsX]))
  have bC := Cond.laysApart hdB hdC hdnB hdnC (by rw [hnB, Y.causeName]; decide)
  have bS := Cond.laysApart hdB hdS hdnB hdnS (by rw [hnB, Y.stackName]; decide)
  have bP := Cond.laysApart hdB hdP hdnB hdnP (by rw [hnB, Y.suppName]; decide)
  have hskip : SkipFacts T e.platform s (fun u => u) u0 ((preparedCellV T.toThrowableT (freshCell P1.m.cls kX) a u0 sen).withEntry W.cur) :=
    ⟨{ ci198 := ci198, i198 := i198, fBack := fB }, ⟨hk198, hg198, ha198, hsB⟩, by
      have := fresh_default (c := P1.m.cls) tyB
      rw [htB] at this
      simpa [preparedCellV, Cell.setSlot, Cell.withEntry, Array.getElem?_setIfInBounds, bC, bS, bP, bC.symm, bS.symm, bP.symm, defaultValue] using this, fun _ _ => rfl⟩
  obtain ⟨tm, methC, cdC, kC, vm₁, hnC, -, -, -, -, -, -, -, hW₁, st1⟩ := Steps.initColdS (tb := p.tables) (e := e) (below := below) (s := s) (U := W) X.here hexec X.warmed hpl hown (t := Bundle.initS cls) rfl rfl (Bundle.fit_spec hcls).2
    (a' (.methodLink own ic (Bundle.initS cls)) (by simp [Bundle.ownAtomsX])) (h (.instanceMethod (Bundle.initS cls)) (by cases names <;> simp [Bundle.ownAtomsX, Bundle.chainSAtomsX, Bundle.chainSAtoms, Bundle.passSAtoms])) (bytes := rx) (maxL := 2) (h (.code (Bundle.initS cls) rx 2 none) (by cases names <;> simp [Bundle.ownAtomsX, Bundle.chainSAtomsX, Bundle.chainSAtoms, Bundle.passSAtoms]))
    (f := g) hg (a := a) (msg := msg) (rest := .ref a :: rest) hstack hd6
  cases Option.some.inj (hnC.symm.trans hP1m)
  have X₁ := X.noted hW₁
  obtain ⟨vm₂, X₂, st2⟩ := X₁.ctorMessageOffV hexec (g := { g with stack := .ref a :: rest }) hg hsize T L Z LZ M LM (P1 :: Ps)
    (fun P hP => by rcases List.mem_cons.mp hP with rfl | hP; exact L1; exact hL P hP) ⟨hlink1, hlink⟩ (u0 := u0) (sen := sen) (self := a) hmsg (cell := freshCell P1.m.cls kX) (cellS := cellS)
    hcell (fun _ => by simp) (by simp) rfl rfl hsel0 hselF hcellS hneS hknownS (by rw [hkeep _ (hout' _)]; exact hu0) (by rw [hkeep _ (hout' _)]; exact hsen)
    (Takes.of_laid hk hord tyC (by rw [Y.causeType]; rfl)) (Takes.of_laid hk hord tyS (by rw [Y.stackType]; exact fits_refV_array _ u0)) (Takes.of_laid hk hord tyP (by rw [Y.suppType]; exact fits_refV_object _ sen))
    (Takes.of_laid hk hord tyM (by rw [Y.msgType]; exact fits_refV_object _ ⟨msg, hmsg⟩)) Y.objLocals hskip htr [] hd6
    (by simp only [List.length_cons, hlen]; omega) (by simp only [List.length_cons, hlen]; exact hRlocals)
  have hlt : a < ((W.setVm vm₁).setVm vm₂).heap.size := (Array.getElem?_eq_some_iff.mp hcell).1
  refine ⟨(W.setVm vm₁).setVm vm₂, _, _, X₂, fun y hy => ?_, hlt, rfl, rfl, fun target hwalk => st1 _ (fun acts => ?_)⟩
  · simp only [List.mem_cons, List.not_mem_nil, or_false] at hy
    rcases hy with rfl | rfl | rfl | rfl | rfl <;> rfl
  · rw [doInvoke_state]
    exact st2 _ hwalk
end VXKX
section VXKX2
variable {p : Program} {l : Launch} {e : Env} {R : Room} {s : State} {m : MethodId} {args : Array Value} {below : List Frame} {meth : Method} {c : Code} {H : Heap} {locs : List Loc} {cells slots : Nat} {Q : State → Prop}
variable {ls : Array Slot} {rest : List Value} {D : va_G} {cl : List vw_C} {tys : List (ClassId × FieldType)} {ws : va_W}
/-- 'new E("text")' that isn't thrown at once: the object goes on the stack -/
theorem vx_makeSX {cc : ByteArray} {pc : Nat} (hexec : p.tables.exec = Jvm.exec) (hb : c.code = cc) (hl : l.stackTraces = false) {own cls text : String} {names : List String} {ik is ic sa ci ix : Nat} {rx : ByteArray} (x0 : decode rx 0 = .ok (.aload_n 0, 1)) (x1 : decode rx 1 = .ok (.aload_n 1, 1)) (x2 : decode rx 2 = .ok (.invokespecial ix, 3)) (x5 : decode rx 5 = .ok (.return_, 1)) {A : Nat → Prop} {T0 : u_T}
    (hown : s.vm.findClass own = some m.cls) (hcls : Bundle.fit cls = true) (hnames : ∀ n ∈ names, Bundle.fit n = true)
    (hk : (Cond.classLink own ik cls).before args s = true) (hini : (Cond.initialized cls).before args s = true) (hstr : vk_R own is text sa s) (hat : ∀ w ∈ vx_atX own ic cls ix rx names, w.before args s = true)
    (hgood : ∀ w ∈ Cond.classLink own ik cls :: Cond.initialized cls :: vx_atX own ic cls ix rx names, vx_ot w = true)
    (hU : vx_Zq Bundle.tN "UNASSIGNED_STACK" Bundle.steD A s s.heap) (hN : vx_Zq Bundle.tN "SUPPRESSED_SENTINEL" Bundle.listD A s s.heap) (hS : va_S A s.heap H locs) (hsize : ls.size = c.maxLocals)
    (d0 : decode cc pc = .ok (.new ik, 3)) (d3 : decode cc (pc + 3) = .ok (.dup, 1)) (d4 : decode cc (pc + 4) = .ok (.ldc_w is, 3)) (d6 : decode cc (pc + 7) = .ok (.invokespecial ic, 3))
    (hK : va_K D cl tys s) (hP : va_P D cl ws H) (hD : va_D A ws) (hA : ∀ q, s.heap.size ≤ q → A q) (hc : cl[ci]? = some (cls, T0, 0))
    (hRframes : names.length + 3 < R.frames) (hRlocals : (rest.map fun v => v.category).sum + (13 * (names.length + 1) + 43) ≤ R.locals) (hRcells : cells + 1 ≤ R.cells) (hRslots : slots + 6 ≤ R.slots)
    (kk : ∀ (q : Nat) (H1 : Heap), va_P D cl (ws ++ [(q, .inr (ci, []))]) H1 → va_D A (ws ++ [(q, .inr (ci, []))]) → va_S A s.heap H1 locs → W p l e R s m args below meth c H1 locs (cells + 1) (slots + 6) Q (F0 m (pc + 10) ls (.ref q :: rest))) :
    W p l e R s m args below meth c H locs cells slots Q (F0 m pc ls rest) := by
  intro T hT X
  subst hT
  have htr : e.platform.stackTraces = false := (show e.platform.stackTraces = l.stackTraces by rw [X.admits.platform]).trans hl
  have Y := vx_rebase X (R' := { frames := R.frames, locals := R.locals, cells := 1, slots := 6 }) (Nat.le_refl _) (Nat.le_refl _) hRcells hRslots
  obtain ⟨s', hA'⟩ : ∃ z, z = (T.setVm s.vm).setFrames (.invoking m args :: below) := ⟨_, rfl⟩
  rw [← hA'] at Y
  have hvm : s'.vm = s.vm := by rw [hA']; rfl
  have hhp : s'.heap = T.heap := by rw [hA']; rfl
  have hW0 : s.WarmedH s'.vm := by rw [hvm]; exact State.WarmedH.refl s
  have hat' : ∀ w ∈ vx_atX own ic cls ix rx names, w.before args s' = true := fun w hw => vx_ot_at hW0 hvm.symm (hgood w (List.mem_cons_of_mem _ (List.mem_cons_of_mem _ hw))) (hat w hw)
  have hk' : (Cond.classLink own ik cls).before args s' = true := vx_ot_at hW0 hvm.symm (hgood _ List.mem_cons_self) hk
  have hini' : (Cond.initialized cls).before args s' = true := vx_ot_at hW0 hvm.symm (hgood _ (List.mem_cons_of_mem _ List.mem_cons_self)) hini
  have hU' : vx_Zq Bundle.tN "UNASSIGNED_STACK" Bundle.steD A s' s'.heap := by rw [hhp]; exact vx_Zq.moved hW0.alike (hU.kept hS.2.1)
  have hN' : vx_Zq Bundle.tN "SUPPRESSED_SENTINEL" Bundle.listD A s' s'.heap := by rw [hhp]; exact vx_Zq.moved hW0.alike (hN.kept hS.2.1)
  have h : ∀ w ∈ Bundle.ownAtomsX own ic cls ix rx names, w.before args s' = true := vx_own hat' (vx_isRefq hU'.1) (vx_isRefq hN'.1) hU'.2.word hN'.2.word
  have hown' : s'.vm.findClass own = some m.cls := by rw [hvm]; exact hown
  have hins : (Cond.instantiable cls 6).before args s' = true := h _ (by simp [Bundle.ownAtomsX])
  obtain ⟨vm₁, cX, kX, hfX, hkX, -, -, X₁, st1⟩ := Y.newCold hexec (own := own) (C := cls) (index := ik) (n := 6) hown' hk' hins hini'
    (g := F0 m pc ls rest) rfl (by rw [hb]; exact d0) (Nat.le_refl _) (Nat.le_refl _)
  generalize hT1 : (T.setVm vm₁).pushCell { cls := cX, slots := kX.instanceTypes.map defaultValue, vm := .none } = T1 at X₁ st1
  have hcat : (Value.ref T.heap.size).category = 1 := rfl
  have hcellA : T1.heap[T.heap.size]? = some (freshCell cX kX) := by rw [← hT1]; exact State.heap_pushCell_size _ _
  have d3' : decode c.code (pc + 3) = .ok (.dup, 1) := by rw [hb]; exact d3
  have d4' : decode c.code (pc + 4) = .ok (.ldc_w is, 3) := by rw [hb]; exact d4
  have hstr' : vk_R own is text sa s' := vk_R.warm hW0 hstr
  obtain ⟨V, ce, L, Z, hL, hlt, hcl9, hvm9, st⟩ := vx_ctorMadeSX X₁ hexec htr (own := own) (cls := cls) (names := names) (ic := ic) x0 x1 x2 x5 hown' hcls hnames h (fun x hx => nomatch hx) hfX hkX hcellA (by rw [hhp]; exact Nat.le_refl _) (msg := .ref sa) rfl
    (g := { method := m, pc := pc + 7, locals := ls, stack := .ref sa :: .ref T.heap.size :: .ref T.heap.size :: rest, locked := none }) rfl hsize (rest := rest) rfl
    (by rw [hb]; exact d6) hRframes (by simp only [List.map_cons, List.sum_cons, hcat]; omega)
  have Z0 := Stand.forget (locs := []) Z (fun y hy => by rw [hL y hy, hhp]; exact Nat.le_refl _)
  obtain ⟨f1, f2⟩ := vx_frame Z0.same
  rw [hhp] at f1 f2
  have hcid : ce.cls = D.1 ci := by
    rw [hcl9]
    have h1 := (hK.1 ci _ hc).2.1
    rw [hvm] at hfX
    exact Option.some.inj (hfX.symm.trans h1)
  have hh : (V.setCell T.heap.size ce).heap[T.heap.size]? = some ce := heapAt_setCell_self (s := V) ce hlt
  subst hA'
  have X5 := vx_back9 X Y Z0
  have X6 : Stand p l e R s m args below meth c (V.setCell T.heap.size ce) locs (cells + 1) (slots + 6) := { X5 with same := X5.same.mono (by omega) (by omega) }
  have hk9 : ∀ (k : Nat) (x : Nat × va_E), ws[k]? = some x → (V.setCell T.heap.size ce).heap[x.1]? = T.heap[x.1]? := fun k x hx => f2 x.1 ((hP k x hx).lt) (fun z hz => nomatch hz)
  obtain ⟨t, a1, b1⟩ := kk T.heap.size (V.setCell T.heap.size ce).heap ((hP.kept hk9).app (fun k x hx => by
      have hz : k < 1 := (List.getElem?_eq_some_iff.mp hx).1
      rw [show k = 0 by omega] at hx
      cases hx
      exact ⟨_, hc, ce, hh, hcid, hvm9, fun k hk => absurd hk (Nat.not_lt_zero k)⟩)) (hD.push hP rfl (hA _ hS.1)) ⟨Nat.le_trans hS.1 f1, fun q h1 h2 => (f2 q (Nat.lt_of_lt_of_le h1 hS.1) (fun z hz => nomatch hz)).trans (hS.2.1 q h1 h2), hS.2.2⟩ _ rfl X6
  refine ⟨t, st1 _ ?_, b1⟩
  show Steps p.tables e below (T1.setTop { method := m, pc := pc + 3, locals := ls, stack := .ref T.heap.size :: rest, locked := none }) _
  jvm_step X₁.here [X₁.here.top, hexec, d3', Value.category]
  exact X₁.ldcStringW hexec (own := own) (text := text) (index := is) (a := sa) hown' hstr'.1 hstr'.2
    (g := { method := m, pc := pc + 4, locals := ls, stack := .ref T.heap.size :: .ref T.heap.size :: rest, locked := none }) rfl d4' _ (st _ a1)
end VXKX2
section LQT
variable {G : lq_G} {Y : lq_Y} {d kc ks z : Nat} {S : lq_S} {M : lq_M} {N : lq_N} {Q : lq_P} {X : lq_E} {pc : Nat} {lv : List (Option Value)} {st : List Value}
theorem qw_throwL {ik is ic ci : Nat} (j : Nat) {cls tx : String} {names : List String} (hok : (lq_cl[ci]?) = some (cls, lq_T0, 0)) (hT : Y.2.2.2.2 = []) (hcls : Bundle.fit cls = true) (hnames : ∀ n ∈ names, Bundle.fit n = true) (hnl : names.length ≤ 5)
    (hk : Cond.classLink Y.1.cls ik cls ∈ lq_W) (hini : Cond.initialized cls ∈ lq_W) (hstr : lq_strs[j]? = some (Y.1.cls, is, tx)) (hat : ∀ w ∈ (vx_atS Y.1.cls ic cls names).filter goodWord, w ∈ lq_W) (hca : ∀ w ∈ (vx_atS Y.1.cls ic cls names).filter (fun w => !goodWord w), lq_xb cls w)
    (d0 : decode Y.2.1 pc = .ok (.new ik, 3)) (d3 : decode Y.2.1 (pc + 3) = .ok (.dup, 1)) (d4 : decode Y.2.1 (pc + 4) = .ok (.ldc is, 2)) (d6 : decode Y.2.1 (pc + 6) = .ok (.invokespecial ic, 3)) (d9 : decode Y.2.1 (pc + 9) = .ok (.athrow, 1))
    (hw : (st.map fun v => v.category).sum ≤ 8) (hkc : 1 ≤ kc) (hks : 6 ≤ ks) (hx : ∀ z', X cls z' S M N) : LW G Y d kc ks Q X z S M N pc lv st := by
  intro p e R s m args below meth c H locs cells slots ls C
  have hts := C.1.2.2.2.2
  have hagr : ∀ a : Nat, a < (lq_u G).heap.size → ¬ lq_b G ≤ a → s.heap[a]? = (lq_u G).heap[a]? := fun a h1 h2 => by
    rw [← C.2.2.2.1.1.2.2.1 a (Nat.not_le.mp h2)]
    exact (C.2.2.2.1.2.2.1 a (Nat.lt_of_lt_of_le (Nat.not_le.mp h2) C.2.2.1.2) h2).symm
  have hZ : ∀ {C0 n0 d0 : String}, vx_Zq C0 n0 d0 (fun q => lq_b G ≤ q) (lq_u G) (lq_u G).heap → vx_Zq C0 n0 d0 (fun q => lq_b G ≤ q) s s.heap := fun h => vx_Zq.moved C.2.2.1.1.2.1 (h.kept hagr)
  have hgood : ∀ w ∈ lq_W, vx_ot w = true := fun w h => by unfold vx_ot; rw [lq_W_good w h]; exact Bool.or_true _
  have hxa := lq_xall (args := args) C.2.2.1.1 hts hok hat hca
  have hR := C.2.2.2.2.1
  refine vx_throwS (A := fun q => lq_b G ≤ q) C.1.1 C.1.2.1 C.2.2.1.1.2.2.1.1 (own := Y.1.cls) (names := names) C.1.2.2.2.1 hcls hnames (hts _ hk) (hts _ hini) (C.2.2.1.1.2.2.2 j _ hstr) (fun w hw => (hxa w hw).1) (fun w hw => ?_) (hZ C.2.2.1.1.2.2.1.2.1) (hZ C.2.2.1.1.2.2.1.2.2.1) C.2.2.2.1.2 (C.2.2.2.2.2.1.trans C.1.2.2.1.symm) d0 d3 d4 d6 d9 ?_ ?_ ?_ ?_ ?_ C.2.1.2.1 (fun t hA hsz hkp => ?_) (fun l hl => C.2.2.2.1.2.2.2 l hl) ?_ ?_
  · rcases List.mem_cons.mp hw with h | h
    · rw [h]; exact hgood _ hk
    · rcases List.mem_cons.mp h with h | h
      · rw [h]; exact hgood _ hini
      · exact (hxa w h).2
  · rw [C.2.1.2.2.2, hT]
    intro x hx
    cases hx
  · omega
  · omega
  · omega
  · omega
  · obtain ⟨g1, g2, g3, g4⟩ := C.2.2.2.1.1
    refine ⟨Nat.le_trans C.2.2.2.1.2.1 hsz, t.heap.size, S, M, N, hx _, rfl, by omega, fun q hq => (hkp q (by omega)).trans (g3 q hq), fun a c0 ha => ⟨(g4 a c0 ha).1, (g4 a c0 ha).2.kept (hkp a ?_)⟩⟩
    exact (g4 a c0 ha).2.lt
  · omega
  · omega
theorem qw_throwW {ik is ic ci : Nat} (j : Nat) {cls tx : String} {names : List String} (hok : (lq_cl[ci]?) = some (cls, lq_T0, 0)) (hT : Y.2.2.2.2 = []) (hcls : Bundle.fit cls = true) (hnames : ∀ n ∈ names, Bundle.fit n = true) (hnl : names.length ≤ 5)
    (hk : Cond.classLink Y.1.cls ik cls ∈ lq_W) (hini : Cond.initialized cls ∈ lq_W) (hstr : lq_strs[j]? = some (Y.1.cls, is, tx)) (hat : ∀ w ∈ (vx_atS Y.1.cls ic cls names).filter goodWord, w ∈ lq_W) (hca : ∀ w ∈ (vx_atS Y.1.cls ic cls names).filter (fun w => !goodWord w), lq_xb cls w)
    (d0 : decode Y.2.1 pc = .ok (.new ik, 3)) (d3 : decode Y.2.1 (pc + 3) = .ok (.dup, 1)) (d4 : decode Y.2.1 (pc + 4) = .ok (.ldc_w is, 3)) (d6 : decode Y.2.1 (pc + 7) = .ok (.invokespecial ic, 3)) (d9 : decode Y.2.1 (pc + 10) = .ok (.athrow, 1))
    (hw : (st.map fun v => v.category).sum ≤ 8) (hkc : 1 ≤ kc) (hks : 6 ≤ ks) (hx : ∀ z', X cls z' S M N) : LW G Y d kc ks Q X z S M N pc lv st := by
  intro p e R s m args below meth c H locs cells slots ls C
  have hts := C.1.2.2.2.2
  have hagr : ∀ a : Nat, a < (lq_u G).heap.size → ¬ lq_b G ≤ a → s.heap[a]? = (lq_u G).heap[a]? := fun a h1 h2 => by
    rw [← C.2.2.2.1.1.2.2.1 a (Nat.not_le.mp h2)]
    exact (C.2.2.2.1.2.2.1 a (Nat.lt_of_lt_of_le (Nat.not_le.mp h2) C.2.2.1.2) h2).symm
  have hZ : ∀ {C0 n0 d0 : String}, vx_Zq C0 n0 d0 (fun q => lq_b G ≤ q) (lq_u G) (lq_u G).heap → vx_Zq C0 n0 d0 (fun q => lq_b G ≤ q) s s.heap := fun h => vx_Zq.moved C.2.2.1.1.2.1 (h.kept hagr)
  have hgood : ∀ w ∈ lq_W, vx_ot w = true := fun w h => by unfold vx_ot; rw [lq_W_good w h]; exact Bool.or_true _
  have hxa := lq_xall (args := args) C.2.2.1.1 hts hok hat hca
  have hR := C.2.2.2.2.1
  refine vx_throwSW (A := fun q => lq_b G ≤ q) C.1.1 C.1.2.1 C.2.2.1.1.2.2.1.1 (own := Y.1.cls) (names := names) C.1.2.2.2.1 hcls hnames (hts _ hk) (hts _ hini) (C.2.2.1.1.2.2.2 j _ hstr) (fun w hw => (hxa w hw).1) (fun w hw => ?_) (hZ C.2.2.1.1.2.2.1.2.1) (hZ C.2.2.1.1.2.2.1.2.2.1) C.2.2.2.1.2 (C.2.2.2.2.2.1.trans C.1.2.2.1.symm) d0 d3 d4 d6 d9 ?_ ?_ ?_ ?_ ?_ C.2.1.2.1 (fun t hA hsz hkp => ?_) (fun l hl => C.2.2.2.1.2.2.2 l hl) ?_ ?_
  · rcases List.mem_cons.mp hw with h | h
    · rw [h]; exact hgood _ hk
    · rcases List.mem_cons.mp h with h | h
      · rw [h]; exact hgood _ hini
      · exact (hxa w h).2
  · rw [C.2.1.2.2.2, hT]
    intro x hx
    cases hx
  · omega
  · omega
  · omega
  · omega
  · obtain ⟨g1, g2, g3, g4⟩ := C.2.2.2.1.1
    refine ⟨Nat.le_trans C.2.2.2.1.2.1 hsz, t.heap.size, S, M, N, hx _, rfl, by omega, fun q hq => (hkp q (by omega)).trans (g3 q hq), fun a c0 ha => ⟨(g4 a c0 ha).1, (g4 a c0 ha).2.kept (hkp a ?_)⟩⟩
    exact (g4 a c0 ha).2.lt
  · omega
  · omega
theorem qw_throwX {ik is ic ci ix : Nat} {rx : ByteArray} (x0 : decode rx 0 = .ok (.aload_n 0, 1)) (x1 : decode rx 1 = .ok (.aload_n 1, 1)) (x2 : decode rx 2 = .ok (.invokespecial ix, 3)) (x5 : decode rx 5 = .ok (.return_, 1)) (j : Nat) {cls tx : String} {names : List String} (hok : (lq_cl[ci]?) = some (cls, lq_T0, 0)) (hT : Y.2.2.2.2 = []) (hcls : Bundle.fit cls = true) (hnames : ∀ n ∈ names, Bundle.fit n = true) (hnl : names.length ≤ 5)
    (hk : Cond.classLink Y.1.cls ik cls ∈ lq_W) (hini : Cond.initialized cls ∈ lq_W) (hstr : lq_strs[j]? = some (Y.1.cls, is, tx)) (hat : ∀ w ∈ (vx_atX Y.1.cls ic cls ix rx names).filter goodWord, w ∈ lq_W) (hca : ∀ w ∈ (vx_atX Y.1.cls ic cls ix rx names).filter (fun w => !goodWord w), lq_xb cls w)
    (d0 : decode Y.2.1 pc = .ok (.new ik, 3)) (d3 : decode Y.2.1 (pc + 3) = .ok (.dup, 1)) (d4 : decode Y.2.1 (pc + 4) = .ok (.ldc_w is, 3)) (d6 : decode Y.2.1 (pc + 7) = .ok (.invokespecial ic, 3)) (d9 : decode Y.2.1 (pc + 10) = .ok (.athrow, 1))
    (hw : (st.map fun v => v.category).sum ≤ 8) (hkc : 1 ≤ kc) (hks : 6 ≤ ks) (hx : ∀ z', X cls z' S M N) : LW G Y d kc ks Q X z S M N pc lv st := by
  intro p e R s m args below meth c H locs cells slots ls C
  have hts := C.1.2.2.2.2
  have hagr : ∀ a : Nat, a < (lq_u G).heap.size → ¬ lq_b G ≤ a → s.heap[a]? = (lq_u G).heap[a]? := fun a h1 h2 => by
    rw [← C.2.2.2.1.1.2.2.1 a (Nat.not_le.mp h2)]
    exact (C.2.2.2.1.2.2.1 a (Nat.lt_of_lt_of_le (Nat.not_le.mp h2) C.2.2.1.2) h2).symm
  have hZ : ∀ {C0 n0 d0 : String}, vx_Zq C0 n0 d0 (fun q => lq_b G ≤ q) (lq_u G) (lq_u G).heap → vx_Zq C0 n0 d0 (fun q => lq_b G ≤ q) s s.heap := fun h => vx_Zq.moved C.2.2.1.1.2.1 (h.kept hagr)
  have hgood : ∀ w ∈ lq_W, vx_ot w = true := fun w h => by unfold vx_ot; rw [lq_W_good w h]; exact Bool.or_true _
  have hxa := lq_xall (args := args) C.2.2.1.1 hts hok hat hca
  have hR := C.2.2.2.2.1
  obtain ⟨ws, hP, hD, hin⟩ := C.2.2.2.1.1.list
  refine vx_makeSX (Q := _) C.1.1 C.1.2.1 C.2.2.1.1.2.2.1.1 x0 x1 x2 x5 (own := Y.1.cls) (names := names) (ci := ci) (T0 := lq_T0) (A := fun q => lq_b G ≤ q) C.1.2.2.2.1 hcls hnames (hts _ hk) (hts _ hini) (C.2.2.1.1.2.2.2 j _ hstr) (fun w hw => (hxa w hw).1) (fun w hw => ?_) (hZ C.2.2.1.1.2.2.1.2.1) (hZ C.2.2.1.1.2.2.1.2.2.1) C.2.2.2.1.2 (C.2.2.2.2.2.1.trans C.1.2.2.1.symm) d0 d3 d4 d6 C.2.2.1.1.1 hP hD (fun q hq => Nat.le_trans C.2.2.1.2 hq) hok ?_ ?_ ?_ ?_ (fun q H1 hP1 hD1 hS1 => ?_)
  · rcases List.mem_cons.mp hw with h | h
    · rw [h]; exact hgood _ hk
    · rcases List.mem_cons.mp h with h | h
      · rw [h]; exact hgood _ hini
      · exact (hxa w h).2
  · omega
  · omega
  · omega
  · omega
  · obtain ⟨r, h1, cell, q1, q2, q3, q4⟩ := hP1 ws.length (q, .inr (ci, [])) (by simp)
    have hcl := (C.2.2.1.1.1.1 ci r h1).2.1
    rw [show r = (cls, lq_T0, 0) from Option.some.inj (h1.symm.trans hok)] at hcl
    have hH1 : lq_H G H1 H1.size S M N := by
      obtain ⟨g1, g2, g3, g4⟩ := C.2.2.2.1.1
      refine ⟨rfl, Nat.le_trans C.2.2.1.2 hS1.1, fun q0 hq0 => ?_, fun a c0 ha => ⟨(g4 a c0 ha).1, ?_⟩⟩
      · rw [hS1.2.1 q0 (Nat.lt_of_lt_of_le hq0 C.2.2.1.2) (Nat.not_le.mpr hq0), ← g3 q0 hq0]
        exact (C.2.2.2.1.2.2.1 q0 (Nat.lt_of_lt_of_le hq0 C.2.2.1.2) (Nat.not_le.mpr hq0)).symm
      · obtain ⟨k9, hk9⟩ := hin a c0 ha
        have hlt : k9 < ws.length := (List.getElem?_eq_some_iff.mp hk9).1
        exact hP1 k9 _ (by rw [List.getElem?_append_left hlt]; exact hk9)
    refine vx_athrow C.1.1 C.1.2.1 d9 (vx_out (E := cls) (ce := cell) ?_ C.2.1.2.1 q1 q3 (by rw [q2]; exact hcl) (fun t9 ht9 _ => ⟨by rw [ht9]; exact hS1.1, H1.size, S, M, N, hx _, by rw [ht9]; exact hH1⟩) (fun l hl => hS1.2.2 l hl) (by omega) (by omega))
    rw [C.2.1.2.2.2, hT]
    intro x hx
    cases hx
end LQT
