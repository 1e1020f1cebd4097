/-! THE LAW: its own rows -/
abbrev YL_law : lq_Y := (yL_law, cL_law, 7, some .boolean, [])
theorem nL_8 : lq_nw RL 8 8 [some none, none, none, some none, some none, some none, some none] := ⟨RX8, TX8, 7, tyX8, rfl, lq_wsX8, lq_in (by decide +kernel) (by decide +kernel), lq_in (by decide +kernel) (by decide +kernel), lq_in (by decide +kernel) (by decide +kernel), tyX8_ok, by decide +kernel, rfl⟩
theorem nL_83 : lq_nw RL 83 9 [none, some none, none, none, none, none, none, none, some none, some none, some none, none, none, none, none, some none, some none, some none, some none] := ⟨RX9, TX9, 19, tyX9, rfl, lq_wsX9, lq_in (by decide +kernel) (by decide +kernel), lq_in (by decide +kernel) (by decide +kernel), lq_in (by decide +kernel) (by decide +kernel), tyX9_ok, by decide +kernel, rfl⟩
theorem mL_82 : lq_ci RL 82 YX8_init 0 := ⟨⟨lq_in (by decide +kernel) (by decide +kernel), lq_in (by decide +kernel) (by decide +kernel), lq_in (by decide +kernel) (by decide +kernel), by decide +kernel, by decide +kernel, by decide +kernel⟩, rfl, lq_in (by decide +kernel) (by decide +kernel), rfl⟩
theorem mL_85 : lq_ci RL 85 YX9_init 0 := ⟨⟨lq_in (by decide +kernel) (by decide +kernel), lq_in (by decide +kernel) (by decide +kernel), lq_in (by decide +kernel) (by decide +kernel), by decide +kernel, by decide +kernel, by decide +kernel⟩, rfl, lq_in (by decide +kernel) (by decide +kernel), rfl⟩
theorem sL_91 : lq_csH RL 91 YL_load 3 := ⟨lq_in (by decide +kernel) (by decide +kernel), lq_in (by decide +kernel) (by decide +kernel), lq_in (by decide +kernel) (by decide +kernel), ⟨by decide +kernel, by decide +kernel, by decide +kernel⟩, lq_in (by decide +kernel) (by decide +kernel)⟩
theorem sL_112 : lq_csH RL 112 YL_breakOf 4 := ⟨lq_in (by decide +kernel) (by decide +kernel), lq_in (by decide +kernel) (by decide +kernel), lq_in (by decide +kernel) (by decide +kernel), ⟨by decide +kernel, by decide +kernel, by decide +kernel⟩, lq_in (by decide +kernel) (by decide +kernel)⟩
theorem sL_116 : lq_csH RL 116 YL_spot 5 := ⟨lq_in (by decide +kernel) (by decide +kernel), lq_in (by decide +kernel) (by decide +kernel), lq_in (by decide +kernel) (by decide +kernel), ⟨by decide +kernel, by decide +kernel, by decide +kernel⟩, lq_in (by decide +kernel) (by decide +kernel)⟩
theorem sL_120 : lq_csH RL 120 YL_sponsor 4 := ⟨lq_in (by decide +kernel) (by decide +kernel), lq_in (by decide +kernel) (by decide +kernel), lq_in (by decide +kernel) (by decide +kernel), ⟨by decide +kernel, by decide +kernel, by decide +kernel⟩, lq_in (by decide +kernel) (by decide +kernel)⟩
theorem sL_123 : lq_csH RL 123 YL_isBanned 4 := ⟨lq_in (by decide +kernel) (by decide +kernel), lq_in (by decide +kernel) (by decide +kernel), lq_in (by decide +kernel) (by decide +kernel), ⟨by decide +kernel, by decide +kernel, by decide +kernel⟩, lq_in (by decide +kernel) (by decide +kernel)⟩
theorem sL_126 : lq_csH RL 126 YL_spotsOn 4 := ⟨lq_in (by decide +kernel) (by decide +kernel), lq_in (by decide +kernel) (by decide +kernel), lq_in (by decide +kernel) (by decide +kernel), ⟨by decide +kernel, by decide +kernel, by decide +kernel⟩, lq_in (by decide +kernel) (by decide +kernel)⟩
theorem sL_129 : lq_csH RL 129 YL_reason 5 := ⟨lq_in (by decide +kernel) (by decide +kernel), lq_in (by decide +kernel) (by decide +kernel), lq_in (by decide +kernel) (by decide +kernel), ⟨by decide +kernel, by decide +kernel, by decide +kernel⟩, lq_in (by decide +kernel) (by decide +kernel)⟩
theorem sL_132 : lq_csH RL 132 YL_price 5 := ⟨lq_in (by decide +kernel) (by decide +kernel), lq_in (by decide +kernel) (by decide +kernel), lq_in (by decide +kernel) (by decide +kernel), ⟨by decide +kernel, by decide +kernel, by decide +kernel⟩, lq_in (by decide +kernel) (by decide +kernel)⟩
theorem sL_135 : lq_csH RL 135 YL_cheapest 4 := ⟨lq_in (by decide +kernel) (by decide +kernel), lq_in (by decide +kernel) (by decide +kernel), lq_in (by decide +kernel) (by decide +kernel), ⟨by decide +kernel, by decide +kernel, by decide +kernel⟩, lq_in (by decide +kernel) (by decide +kernel)⟩
theorem sL_138 : lq_csH RL 138 YL_widest 4 := ⟨lq_in (by decide +kernel) (by decide +kernel), lq_in (by decide +kernel) (by decide +kernel), lq_in (by decide +kernel) (by decide +kernel), ⟨by decide +kernel, by decide +kernel, by decide +kernel⟩, lq_in (by decide +kernel) (by decide +kernel)⟩
theorem sL_149 : lq_csH RL 149 YL_owedSpot 4 := ⟨lq_in (by decide +kernel) (by decide +kernel), lq_in (by decide +kernel) (by decide +kernel), lq_in (by decide +kernel) (by decide +kernel), ⟨by decide +kernel, by decide +kernel, by decide +kernel⟩, lq_in (by decide +kernel) (by decide +kernel)⟩
theorem sL_152 : lq_csH RL 152 YL_arrangements 3 := ⟨lq_in (by decide +kernel) (by decide +kernel), lq_in (by decide +kernel) (by decide +kernel), lq_in (by decide +kernel) (by decide +kernel), ⟨by decide +kernel, by decide +kernel, by decide +kernel⟩, lq_in (by decide +kernel) (by decide +kernel)⟩
theorem sL_155 : lq_csH RL 155 YL_arranged 4 := ⟨lq_in (by decide +kernel) (by decide +kernel), lq_in (by decide +kernel) (by decide +kernel), lq_in (by decide +kernel) (by decide +kernel), ⟨by decide +kernel, by decide +kernel, by decide +kernel⟩, lq_in (by decide +kernel) (by decide +kernel)⟩
theorem sL_158 : lq_csH RL 158 YL_book 5 := ⟨lq_in (by decide +kernel) (by decide +kernel), lq_in (by decide +kernel) (by decide +kernel), lq_in (by decide +kernel) (by decide +kernel), ⟨by decide +kernel, by decide +kernel, by decide +kernel⟩, lq_in (by decide +kernel) (by decide +kernel)⟩
theorem sL_161 : lq_csH RL 161 YL_bookAnyhow 5 := ⟨lq_in (by decide +kernel) (by decide +kernel), lq_in (by decide +kernel) (by decide +kernel), lq_in (by decide +kernel) (by decide +kernel), ⟨by decide +kernel, by decide +kernel, by decide +kernel⟩, lq_in (by decide +kernel) (by decide +kernel)⟩
theorem sL_164 : lq_csH RL 164 YL_remove 4 := ⟨lq_in (by decide +kernel) (by decide +kernel), lq_in (by decide +kernel) (by decide +kernel), lq_in (by decide +kernel) (by decide +kernel), ⟨by decide +kernel, by decide +kernel, by decide +kernel⟩, lq_in (by decide +kernel) (by decide +kernel)⟩
theorem sL_167 : lq_csH RL 167 YL_air 2 := ⟨lq_in (by decide +kernel) (by decide +kernel), lq_in (by decide +kernel) (by decide +kernel), lq_in (by decide +kernel) (by decide +kernel), ⟨by decide +kernel, by decide +kernel, by decide +kernel⟩, lq_in (by decide +kernel) (by decide +kernel)⟩
theorem sL_171 : lq_csH RL 171 YL_cancel 3 := ⟨lq_in (by decide +kernel) (by decide +kernel), lq_in (by decide +kernel) (by decide +kernel), lq_in (by decide +kernel) (by decide +kernel), ⟨by decide +kernel, by decide +kernel, by decide +kernel⟩, lq_in (by decide +kernel) (by decide +kernel)⟩
theorem sL_178 : lq_csH RL 178 YL_campaign 5 := ⟨lq_in (by decide +kernel) (by decide +kernel), lq_in (by decide +kernel) (by decide +kernel), lq_in (by decide +kernel) (by decide +kernel), ⟨by decide +kernel, by decide +kernel, by decide +kernel⟩, lq_in (by decide +kernel) (by decide +kernel)⟩
theorem sL_181 : lq_csH RL 181 YL_setCap 4 := ⟨lq_in (by decide +kernel) (by decide +kernel), lq_in (by decide +kernel) (by decide +kernel), lq_in (by decide +kernel) (by decide +kernel), ⟨by decide +kernel, by decide +kernel, by decide +kernel⟩, lq_in (by decide +kernel) (by decide +kernel)⟩
section XR
variable {G : lq_G} {Y : lq_Y} {d kc ks z : Nat} {S : lq_S} {M : lq_M} {N : lq_N} {Q : lq_P} {X : lq_E} {pc : Nat} {lv : List (Option Value)} {st : List Value}
theorem lq_scr {a L : Nat} {xs : Nat → Int32} {p : Program} {R : Room} {s : State} {m : MethodId} {args : Array Value} {meth : Method} {c : Code} {H : Heap} {locs : List Loc} {cells slots : Nat} {ls : Array Slot} (hX : va_X a L xs (lq_u G) (lq_u G).heap) (C : lq_cx G Y d kc ks z S M N lv p R s m args meth c H locs cells slots ls) : va_X a L xs s H := by
  have ha : a < lq_b G := by
    obtain ⟨scr, h1, -⟩ := hX
    exact (Array.getElem?_eq_some_iff.mp h1).1
  exact (hX.moved C.2.2.1.1.2.1).kept (C.2.2.2.1.1.2.2.1 a ha)
theorem qw_xald {a L j : Nat} {xs : Nat → Int32} (hX : va_X a L xs (lq_u G) (lq_u G).heap) (hd : decode Y.2.1 pc = .ok (.iaload, 1)) (hj : j < L) (hL : L < 2 ^ 31) (k : LW G Y d kc ks Q X z S M N (pc + 1) lv (.int (xs j) :: st)) : LW G Y d kc ks Q X z S M N pc lv (.int (nI j) :: .ref a :: st) := by
  intro p e R s m args below meth c H locs cells slots ls C
  obtain ⟨scr, h1, h2, h3, h4, h5⟩ := lq_scr hX C
  have hc : (nI j).toNatClampNeg = j := nI_clamp (by omega)
  refine W.iald (v := .int (xs j)) C.1.1 C.1.2.1 h1 h2 h3 (fun q => ?_) (by rw [hc]; exact h5 j hj) rfl rfl hd (k p e R s m args below meth c H locs cells slots ls C)
  rcases q with q | q
  · exact nI_pos (by omega) q
  · rw [hc, h4] at q
    omega
theorem qw_xlen {a L : Nat} {xs : Nat → Int32} (hX : va_X a L xs (lq_u G) (lq_u G).heap) (hd : decode Y.2.1 pc = .ok (.arraylength, 1)) (k : LW G Y d kc ks Q X z S M N (pc + 1) lv (.int (nI L) :: st)) : LW G Y d kc ks Q X z S M N pc lv (.ref a :: st) := by
  intro p e R s m args below meth c H locs cells slots ls C
  obtain ⟨scr, h1, h2, h3, h4, h5⟩ := lq_scr hX C
  exact W.alen (n := Int32.ofNat L) C.1.1 C.1.2.1 h1 h2 (by rw [h4] <;> rfl) rfl rfl hd (k p e R s m args below meth c H locs cells slots ls C)
end XR
