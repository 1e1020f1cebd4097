/-! THE START: the whole of what the rows want -/
def q_fl : List Cond := flatC (Jvm.Cond.and given_1 narrow_1)
def q_sb0 : List Nat := [63, 234, 243, 281, 301, 166, 215, 199, 183, 73, 82, 91, 102, 109, 118, 130, 138, 149, 157, 363, 376, 385, 397, 406, 323, 333, 345, 353, 313]
def q_sx0 : List Nat := [475, 881, 944, 966, 974, 688, 738, 720, 698, 526, 600, 625, 634, 643, 662, 663, 664, 665, 666, 1164, 1165, 1166, 1167, 1168, 1115, 1137, 1142, 1147, 1084]
def q_sck (i : Nat) : Bool := decide (tables_1[q_sx0.getD i 0]? = some (Cond.stringRef (lq_strs.getD i ("", 0, "")).1 (lq_strs.getD i ("", 0, "")).2.1 (lq_strs.getD i ("", 0, "")).2.2)) && (decide (q_fl[q_sb0.getD i 0]? = some (Cond.exactly (.string (lq_strs.getD i ("", 0, "")).1 (lq_strs.getD i ("", 0, "")).2.1) "java/lang/String")) && (decide (q_fl[q_sb0.getD i 0 + 1]? = some (Cond.eq (.field (.string (lq_strs.getD i ("", 0, "")).1 (lq_strs.getD i ("", 0, "")).2.1) "java/lang/String" "coder" "B") (.int 0))) && (decide (q_fl[q_sb0.getD i 0 + 2]? = some (Cond.arrayOf (.field (.string (lq_strs.getD i ("", 0, "")).1 (lq_strs.getD i ("", 0, "")).2.1) "java/lang/String" "value" "[B") .byte)) && (decide (q_fl[q_sb0.getD i 0 + 3]? = some (Cond.eq (.length (.field (.string (lq_strs.getD i ("", 0, "")).1 (lq_strs.getD i ("", 0, "")).2.1) "java/lang/String" "value" "[B")) (.int (Int32.ofNat (lq_len.getD i 0))))) && (List.range (lq_len.getD i 0)).all (fun j => decide (q_fl[q_sb0.getD i 0 + 4 + j]? = some (Cond.eq (.elem (.field (.string (lq_strs.getD i ("", 0, "")).1 (lq_strs.getD i ("", 0, "")).2.1) "java/lang/String" "value" "[B") (.int (Int32.ofNat j))) (.int ((lq_bys.getD i []).getD j 0)))))))))
theorem q_sc0 : q_sck 0 = true := by decide +kernel
theorem q_sc1 : q_sck 1 = true := by decide +kernel
theorem q_sc2 : q_sck 2 = true := by decide +kernel
theorem q_sc3 : q_sck 3 = true := by decide +kernel
theorem q_sc4 : q_sck 4 = true := by decide +kernel
theorem q_sc5 : q_sck 5 = true := by decide +kernel
theorem q_sc6 : q_sck 6 = true := by decide +kernel
theorem q_sc7 : q_sck 7 = true := by decide +kernel
theorem q_sc8 : q_sck 8 = true := by decide +kernel
theorem q_sc9 : q_sck 9 = true := by decide +kernel
theorem q_sc10 : q_sck 10 = true := by decide +kernel
theorem q_sc11 : q_sck 11 = true := by decide +kernel
theorem q_sc12 : q_sck 12 = true := by decide +kernel
theorem q_sc13 : q_sck 13 = true := by decide +kernel
theorem q_sc14 : q_sck 14 = true := by decide +kernel
theorem q_sc15 : q_sck 15 = true := by decide +kernel
theorem q_sc16 : q_sck 16 = true := by decide +kernel
theorem q_sc17 : q_sck 17 = true := by decide +kernel
theorem q_sc18 : q_sck 18 = true := by decide +kernel
theorem q_sc19 : q_sck 19 = true := by decide +kernel
theorem q_sc20 : q_sck 20 = true := by decide +kernel
theorem q_sc21 : q_sck 21 = true := by decide +kernel
theorem q_sc22 : q_sck 22 = true := by decide +kernel
theorem q_sc23 : q_sck 23 = true := by decide +kernel
theorem q_sc24 : q_sck 24 = true := by decide +kernel
theorem q_sc25 : q_sck 25 = true := by decide +kernel
theorem q_sc26 : q_sck 26 = true := by decide +kernel
theorem q_sc27 : q_sck 27 = true := by decide +kernel
theorem q_sc28 : q_sck 28 = true := by decide +kernel
theorem q_scks : ∀ i, i < 29 → q_sck i = true := fun i hi => by
  match i, hi with
  | 0, _ => exact q_sc0
  | 1, _ => exact q_sc1
  | 2, _ => exact q_sc2
  | 3, _ => exact q_sc3
  | 4, _ => exact q_sc4
  | 5, _ => exact q_sc5
  | 6, _ => exact q_sc6
  | 7, _ => exact q_sc7
  | 8, _ => exact q_sc8
  | 9, _ => exact q_sc9
  | 10, _ => exact q_sc10
  | 11, _ => exact q_sc11
  | 12, _ => exact q_sc12
  | 13, _ => exact q_sc13
  | 14, _ => exact q_sc14
  | 15, _ => exact q_sc15
  | 16, _ => exact q_sc16
  | 17, _ => exact q_sc17
  | 18, _ => exact q_sc18
  | 19, _ => exact q_sc19
  | 20, _ => exact q_sc20
  | 21, _ => exact q_sc21
  | 22, _ => exact q_sc22
  | 23, _ => exact q_sc23
  | 24, _ => exact q_sc24
  | 25, _ => exact q_sc25
  | 26, _ => exact q_sc26
  | 27, _ => exact q_sc27
  | 28, _ => exact q_sc28
  | k + 29, hi => omega
theorem q_lens : ∀ i, i < 29 → lq_len.getD i 0 < 2 ^ 31 := by decide +kernel
theorem q_strsA {s : State} {args : Array Value} {A : Nat → Prop} (hA : ∀ a : Nat, a < s.heap.size → ¬ A a) (hts : ∀ w ∈ lw_tbl, w.before args s = true) (hgv : ∀ w ∈ q_fl, w.before args s = true) (i : Nat) (hi : i < 29) : ∃ a v : Nat, vk_R (lq_strs.getD i ("", 0, "")).1 (lq_strs.getD i ("", 0, "")).2.1 (lq_strs.getD i ("", 0, "")).2.2 a s ∧ va_O "java/lang/String" a A s s.heap ∧ va_OF "java/lang/String" "coder" "B" (.int 0) a A s s.heap ∧ va_OF "java/lang/String" "value" "[B" (.ref v) a A s s.heap ∧ va_T .byte v (lq_len.getD i 0) (fun j => .int ((lq_bys.getD i []).getD j 0)) A s s.heap := by
  have h := q_scks i hi
  unfold q_sck at h
  simp only [Bool.and_eq_true, decide_eq_true_eq] at h
  obtain ⟨h0, h1, h2, h3, h4, h5⟩ := h
  refine q_str hA (q_lens i hi) (hts _ (List.mem_append_right _ (List.mem_of_getElem? h0))) (hgv _ (List.mem_of_getElem? h1)) (hgv _ (List.mem_of_getElem? h2)) (hgv _ (List.mem_of_getElem? h3)) (hgv _ (List.mem_of_getElem? h4)) (fun j hj => hgv _ ?_)
  have h6 := List.all_eq_true.mp h5 j (List.mem_range.mpr hj)
  exact List.mem_of_getElem? (of_decide_eq_true h6)
theorem q_w {c : Cond} {s : State} {args : Array Value} {ws : List Cond} (h : ∀ w ∈ ws, w.before args s = true) (hc : c ∈ ws) : c.before args s = true := h c hc
theorem q_start {l : Launch} (hflags : l.flags = flags0) {s : State} {b : Nat} (hts : ∀ w ∈ lw_tbl, w.before #[Value.ref b] s = true) (hg : (Jvm.Cond.and given_1 narrow_1).before #[Value.ref b] s = true) : ∃ G : lq_G, lq_l G = l ∧ lq_u G = s ∧ lq_K G s ∧ q_NC G ∧ q_AO G ∧ ∃ v, lq_sx G v := by
  have hgv : ∀ w ∈ q_fl, w.before #[Value.ref b] s = true := flat_of_before _ hg
  have hA : ∀ a : Nat, a < s.heap.size → ¬ (fun q : Nat => s.heap.size ≤ q) a := fun a ha => Nat.not_le.mpr ha
  obtain ⟨c0, i0, h0⟩ := u_known (C := RX0) (T := TX0) (N := 6) (n := 6) hts inX0 (q_w hts (show Cond.instantiable RX0 6 ∈ lw_tbl by decide +kernel))
  obtain ⟨c1, i1, h1⟩ := u_known (C := RX1) (T := TX1) (N := 3) (n := 3) hts inX1 (q_w hts (show Cond.instantiable RX1 3 ∈ lw_tbl by decide +kernel))
  obtain ⟨c2, i2, h2⟩ := u_known (C := RX2) (T := TX2) (N := 4) (n := 4) hts inX2 (q_w hts (show Cond.instantiable RX2 4 ∈ lw_tbl by decide +kernel))
  obtain ⟨c3, i3, h3⟩ := u_known (C := RX3) (T := TX3) (N := 3) (n := 3) hts inX3 (q_w hts (show Cond.instantiable RX3 3 ∈ lw_tbl by decide +kernel))
  obtain ⟨c4, i4, h4⟩ := u_known (C := RX4) (T := TX4) (N := 9) (n := 9) hts inX4 (q_w hts (show Cond.instantiable RX4 9 ∈ lw_tbl by decide +kernel))
  obtain ⟨c5, i5, h5⟩ := u_known (C := RX5) (T := TX5) (N := 6) (n := 6) hts inX5 (q_w hts (show Cond.instantiable RX5 6 ∈ lw_tbl by decide +kernel))
  obtain ⟨c6, i6, h6⟩ := u_known (C := RX6) (T := TX6) (N := 5) (n := 5) hts inX6 (q_w hts (show Cond.instantiable RX6 5 ∈ lw_tbl by decide +kernel))
  obtain ⟨c7, i7, h7⟩ := u_known (C := RX7) (T := TX7) (N := 6) (n := 6) hts inX7 (q_w hts (show Cond.instantiable RX7 6 ∈ lw_tbl by decide +kernel))
  obtain ⟨c8, i8, h8⟩ := u_known (C := RX8) (T := TX8) (N := 7) (n := 7) hts inX8 (q_w hts (show Cond.instantiable RX8 7 ∈ lw_tbl by decide +kernel))
  obtain ⟨c9, i9, h9⟩ := u_known (C := RX9) (T := TX9) (N := 19) (n := 19) hts inX9 (q_w hts (show Cond.instantiable RX9 19 ∈ lw_tbl by decide +kernel))
  obtain ⟨c10, h10⟩ := u_kn0 (C := "java/lang/IllegalArgumentException") (n := 6) (q_w hts (show Cond.instantiable "java/lang/IllegalArgumentException" 6 ∈ lw_tbl by decide +kernel))
  obtain ⟨c11, h11⟩ := u_kn0 (C := "java/lang/IndexOutOfBoundsException") (n := 6) (q_w hts (show Cond.instantiable "java/lang/IndexOutOfBoundsException" 6 ∈ lw_tbl by decide +kernel))
  obtain ⟨c12, h12⟩ := u_kn0 (C := "java/util/NoSuchElementException") (n := 6) (q_w hts (show Cond.instantiable "java/util/NoSuchElementException" 6 ∈ lw_tbl by decide +kernel))
  obtain ⟨c13, h13⟩ := u_kn0 (C := "java/lang/IllegalStateException") (n := 6) (q_w hts (show Cond.instantiable "java/lang/IllegalStateException" 6 ∈ lw_tbl by decide +kernel))
  obtain ⟨a0, t0⟩ := q_arr (ty := .int) (q_w hts (show Cond.arrayClass .int ∈ lw_tbl by decide +kernel)) (fun c => rfl)
  obtain ⟨a1, t1⟩ := q_arr (ty := .byte) (q_w hts (show Cond.arrayClass .byte ∈ lw_tbl by decide +kernel)) (fun c => rfl)
  obtain ⟨a2, t2⟩ := q_arr (ty := .long) (q_w hts (show Cond.arrayClass .long ∈ lw_tbl by decide +kernel)) (fun c => rfl)
  have o3 := q_w hts (show Cond.arrayOver (.array .int) ∈ lw_tbl by decide +kernel)
  have o4 := q_w hts (show Cond.arrayOver (.object "AdBreaks$AdBreak") ∈ lw_tbl by decide +kernel)
  have o5 := q_w hts (show Cond.arrayOver (.object "AdBreaks$Plan") ∈ lw_tbl by decide +kernel)
  obtain ⟨a3, t3⟩ := q_arrA o3
  obtain ⟨a4, t4⟩ := q_arrO o4
  obtain ⟨a5, t5⟩ := q_arrO o5
  have hstr := q_strsA hA hts hgv
  obtain ⟨kA, hkA⟩ : ∃ kA : Nat → Nat, ∀ i, i < 29 → ∃ v : Nat, vk_R (lq_strs.getD i ("", 0, "")).1 (lq_strs.getD i ("", 0, "")).2.1 (lq_strs.getD i ("", 0, "")).2.2 (kA i) s ∧ va_O "java/lang/String" (kA i) (fun q : Nat => s.heap.size ≤ q) s s.heap ∧ va_OF "java/lang/String" "coder" "B" (.int 0) (kA i) (fun q : Nat => s.heap.size ≤ q) s s.heap ∧ va_OF "java/lang/String" "value" "[B" (.ref v) (kA i) (fun q : Nat => s.heap.size ≤ q) s s.heap ∧ va_T .byte v (lq_len.getD i 0) (fun j => .int ((lq_bys.getD i []).getD j 0)) (fun q : Nat => s.heap.size ≤ q) s s.heap :=
    ⟨fun i => if h : i < 29 then Classical.choose (hstr i h) else 0, fun i hi => by simp only [dif_pos hi]; exact Classical.choose_spec (hstr i hi)⟩
  obtain ⟨vA, hvA⟩ : ∃ vA : Nat → Nat, ∀ i, i < 29 → vk_R (lq_strs.getD i ("", 0, "")).1 (lq_strs.getD i ("", 0, "")).2.1 (lq_strs.getD i ("", 0, "")).2.2 (kA i) s ∧ va_O "java/lang/String" (kA i) (fun q : Nat => s.heap.size ≤ q) s s.heap ∧ va_OF "java/lang/String" "coder" "B" (.int 0) (kA i) (fun q : Nat => s.heap.size ≤ q) s s.heap ∧ va_OF "java/lang/String" "value" "[B" (.ref (vA i)) (kA i) (fun q : Nat => s.heap.size ≤ q) s s.heap ∧ va_T .byte (vA i) (lq_len.getD i 0) (fun j => .int ((lq_bys.getD i []).getD j 0)) (fun q : Nat => s.heap.size ≤ q) s s.heap :=
    ⟨fun i => if h : i < 29 then Classical.choose (hkA i h) else 0, fun i hi => by simp only [dif_pos hi]; exact Classical.choose_spec (hkA i hi)⟩
  refine ⟨(l, s, (fun k => ([c0, c1, c2, c3, c4, c5, c6, c7, c8, c9, c10, c11, c12, c13] : List ClassId).getD k c0, fun k => ([i0, i1, i2, i3, i4, i5, i6, i7, i8, i9] : List (Nat → Nat)).getD k (fun _ => 0)), fun k => ([a0, a1, a2, a3, a4, a5] : List ClassId).getD k a0, kA, vA), rfl, rfl, ⟨⟨fun k q hq => ?_, fun k q hq => ?_⟩, Vm.Alike.refl _, ⟨?_, ?_, ?_, fun i hi => ?_⟩, fun i q hq => ?_⟩, ?_, ⟨o3, o4, o5⟩, ?_⟩
  · match k, hq with
    | 0, hq => cases hq; exact h0
    | 1, hq => cases hq; exact h1
    | 2, hq => cases hq; exact h2
    | 3, hq => cases hq; exact h3
    | 4, hq => cases hq; exact h4
    | 5, hq => cases hq; exact h5
    | 6, hq => cases hq; exact h6
    | 7, hq => cases hq; exact h7
    | 8, hq => cases hq; exact h8
    | 9, hq => cases hq; exact h9
    | 10, hq => cases hq; exact h10
    | 11, hq => cases hq; exact h11
    | 12, hq => cases hq; exact h12
    | 13, hq => cases hq; exact h13
    | k + 14, hq => simp [lq_cl, vwCl] at hq
  · match k, hq with
    | 0, hq => cases hq; exact t0
    | 1, hq => cases hq; exact t1
    | 2, hq => cases hq; exact t2
    | 3, hq => cases hq; exact t3
    | 4, hq => cases hq; exact t4
    | 5, hq => cases hq; exact t5
    | k + 6, hq => simp [lq_ty] at hq
  · show l.stackTraces = false
    unfold Launch.stackTraces
    rw [hflags]
    decide +kernel
  · exact vx_Zqof (q_w hts (show Cond.laysStatic "java/lang/Throwable" "UNASSIGNED_STACK" "[Ljava/lang/StackTraceElement;" ∈ lw_tbl by decide +kernel)) (q_w hts (show Cond.initialized "java/lang/Throwable" ∈ lw_tbl by decide +kernel)) (q_w hgv (show Cond.isRef (.static "java/lang/Throwable" "UNASSIGNED_STACK" "[Ljava/lang/StackTraceElement;") ∈ q_fl by decide +kernel)) hA
  · exact vx_Zqof (q_w hts (show Cond.laysStatic "java/lang/Throwable" "SUPPRESSED_SENTINEL" "Ljava/util/List;" ∈ lw_tbl by decide +kernel)) (q_w hts (show Cond.initialized "java/lang/Throwable" ∈ lw_tbl by decide +kernel)) (q_w hgv (show Cond.isRef (.static "java/lang/Throwable" "SUPPRESSED_SENTINEL" "Ljava/util/List;") ∈ q_fl by decide +kernel)) hA
  · exact (hvA i hi).2
  · have hi : i < 29 := by
      obtain ⟨h, -⟩ := List.getElem?_eq_some_iff.mp hq
      exact h
    have hq2 : lq_strs.getD i ("", 0, "") = q := by rw [List.getD_eq_getElem?_getD, hq]; rfl
    have h9 := (hvA i hi).1
    rw [hq2] at h9
    exact h9
  · exact ⟨⟨va_Nc.of (q_w hgv (show Cond.not (Cond.castable eIA eIO) ∈ q_fl by decide +kernel)), va_Nc.of (q_w hgv (show Cond.not (Cond.castable eIA eNS) ∈ q_fl by decide +kernel))⟩, ⟨va_Nc.of (q_w hgv (show Cond.not (Cond.castable eNS eIO) ∈ q_fl by decide +kernel)), va_Nc.of (q_w hgv (show Cond.not (Cond.castable eIO eIA) ∈ q_fl by decide +kernel))⟩, va_Nc.of (q_w hgv (show Cond.not (Cond.castable eIS eIO) ∈ q_fl by decide +kernel)), va_Nc.of (q_w hgv (show Cond.not (Cond.castable eIS eNS) ∈ q_fl by decide +kernel))⟩
  · have z1 := va_Zof (A := fun q : Nat => s.heap.size ≤ q) (q_w hts (show Cond.laysStatic "java/lang/String" "COMPACT_STRINGS" "Z" ∈ lw_tbl by decide +kernel)) (q_w hts (show Cond.initialized "java/lang/String" ∈ lw_tbl by decide +kernel)) (va_eqt (q_w hgv (show Cond.eq (.static "java/lang/String" "COMPACT_STRINGS" "Z") (.int 1) ∈ q_fl by decide +kernel))) hA
    rcases va_Zqof (A := fun q : Nat => s.heap.size ≤ q) (q_w hts (show Cond.laysStatic "jdk/internal/util/Preconditions" "SIOOBE_FORMATTER" "Ljava/util/function/BiFunction;" ∈ lw_tbl by decide +kernel)) (q_w hts (show Cond.initialized "jdk/internal/util/Preconditions" ∈ lw_tbl by decide +kernel)) (q_w hgv (show Cond.isRef (.static "jdk/internal/util/Preconditions" "SIOOBE_FORMATTER" "Ljava/util/function/BiFunction;") ∈ q_fl by decide +kernel)) hA with h | ⟨t, h⟩
    · exact ⟨.null, z1, h, rfl⟩
    · exact ⟨.ref t, z1, h, rfl⟩
