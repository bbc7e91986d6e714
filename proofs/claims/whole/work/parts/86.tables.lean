set_option maxRecDepth 20000 in
theorem lw_nest_in : ∀ w ∈ kk_nest.map (fun q => Cond.methodLinkNest q.1 q.2.1 q.2.2.1 q.2.2.2), w ∈ lw_tbl := kk_in _ [79, 95, 125, 130, 133, 188, 208, 224, 239, 244, 246, 291, 312, 346, 532, 576, 632] (by decide +kernel)
theorem lw_nest {args : Array Value} {s : State} (hts : ∀ w ∈ lw_tbl, w.before args s = true) : kk_N s := fun q hq => va_Nw.of rfl (hts _ (lw_nest_in _ (List.mem_map_of_mem (f := fun q : String × Nat × MethodName × String => Cond.methodLinkNest q.1 q.2.1 q.2.2.1 q.2.2.2) hq)))
theorem lw_arr {args : Array Value} {s : State} {ty : FieldType} (h : (Cond.arrayClass ty).before args s = true) : ∃ cA : ClassId, ArrOfT s cA ty ∧ s.vm.findClass ("[" ++ ty.toString) = some cA := by
  obtain ⟨cA, kA, comp, f1, f2, f3⟩ := Cond.arrayClass_spec h
  exact ⟨cA, fun n z => ⟨fun k h => (by cases h), kA, f2, comp, f3⟩, f1⟩
theorem lw_arq {args : Array Value} {s : State} {n : String} (h : (Cond.arrayOver (.object n)).before args s = true) : ∃ cA : ClassId, ArrOfT s cA (.object n) ∧ va_RA s cA (.object n) := by
  obtain ⟨comp, cA, kA, f1, f2, f3, f4, f5⟩ := Cond.arrayOver_spec h
  exact ⟨cA, fun n z => ⟨fun k h => (by cases h), kA, f3, comp, f4⟩, kA, comp, f3, f4, f1, f5⟩
theorem lw_w0 : Cond.instantiable RX0 5 ∈ lw_tbl := (List.mem_of_getElem? (i := 132) (by decide +kernel))
theorem lw_w1 : Cond.instantiable RX1 3 ∈ lw_tbl := (List.mem_of_getElem? (i := 238) (by decide +kernel))
theorem lw_w3 : Cond.instantiable RX3 2 ∈ lw_tbl := (List.mem_of_getElem? (i := 78) (by decide +kernel))
theorem lw_w4 : Cond.instantiable RX4 3 ∈ lw_tbl := (List.mem_of_getElem? (i := 207) (by decide +kernel))
theorem lw_w5 : Cond.instantiable RX5 4 ∈ lw_tbl := (List.mem_of_getElem? (i := 187) (by decide +kernel))
theorem lw_w6 : Cond.instantiable RX6 2 ∈ lw_tbl := (List.mem_of_getElem? (i := 223) (by decide +kernel))
theorem lw_w7 : Cond.instantiable RX7 6 ∈ lw_tbl := (List.mem_of_getElem? (i := 94) (by decide +kernel))
theorem lw_w8 : Cond.instantiable RX8 8 ∈ lw_tbl := (List.mem_of_getElem? (i := 124) (by decide +kernel))
theorem lw_w9 : Cond.instantiable RX9 7 ∈ lw_tbl := (List.mem_of_getElem? (i := 70) (by decide +kernel))
theorem lw_w10 : Cond.instantiable RX10 34 ∈ lw_tbl := (List.mem_of_getElem? (i := 712) (by decide +kernel))
theorem lw_ai : Cond.arrayClass .int ∈ lw_tbl := (List.mem_of_getElem? (i := 92) (by decide +kernel))
theorem lw_al : Cond.arrayClass .long ∈ lw_tbl := (List.mem_of_getElem? (i := 235) (by decide +kernel))
theorem lw_az : Cond.arrayClass .boolean ∈ lw_tbl := (List.mem_of_getElem? (i := 820) (by decide +kernel))
theorem lw_aq : Cond.arrayOver (.object "PeaCups$Image") ∈ lw_tbl := (List.mem_of_getElem? (i := 237) (by decide +kernel))
theorem lw_K {args : Array Value} {s : State} (hts : ∀ w ∈ lw_tbl, w.before args s = true) : ∃ (D : va_G) (cy : Nat → Nat), kk_E D cy s := by
  obtain ⟨c0, i0, h0⟩ := u_known (C := RX0) (T := TX0) (N := 5) (n := 5) hts inX0 (hts _ lw_w0)
  obtain ⟨c1, i1, h1⟩ := u_known (C := RX1) (T := TX1) (N := 3) (n := 3) hts inX1 (hts _ lw_w1)
  obtain ⟨c2, i2, h2⟩ := u_known (C := RX3) (T := TX3) (N := 2) (n := 2) hts inX3 (hts _ lw_w3)
  obtain ⟨c3, i3, h3⟩ := u_known (C := RX4) (T := TX4) (N := 3) (n := 3) hts inX4 (hts _ lw_w4)
  obtain ⟨c4, i4, h4⟩ := u_known (C := RX5) (T := TX5) (N := 4) (n := 4) hts inX5 (hts _ lw_w5)
  obtain ⟨c5, i5, h5⟩ := u_known (C := RX6) (T := TX6) (N := 2) (n := 2) hts inX6 (hts _ lw_w6)
  obtain ⟨c6, i6, h6⟩ := u_known (C := RX7) (T := TX7) (N := 6) (n := 6) hts inX7 (hts _ lw_w7)
  obtain ⟨c7, i7, h7⟩ := u_known (C := RX8) (T := TX8) (N := 8) (n := 8) hts inX8 (hts _ lw_w8)
  obtain ⟨c8, i8, h8⟩ := u_known (C := RX9) (T := TX9) (N := 7) (n := 7) hts inX9 (hts _ lw_w9)
  obtain ⟨c9, i9, h9⟩ := u_known (C := RX10) (T := TX10) (N := 34) (n := 34) hts inX10 (hts _ lw_w10)
  obtain ⟨z0, y0, w0⟩ := lw_arr (hts _ lw_ai)
  obtain ⟨z1, y1, w1⟩ := lw_arr (hts _ lw_al)
  obtain ⟨z2, y2, w2⟩ := lw_arr (hts _ lw_az)
  obtain ⟨z3, y3, w3⟩ := lw_arq (hts _ lw_aq)
  refine ⟨(fun k => ([c0, c1, c2, c3, c4, c5, c6, c7, c8, c9] : List Nat).getD k 0, fun k => ([i0, i1, i2, i3, i4, i5, i6, i7, i8, i9] : List (Nat → Nat)).getD k (fun _ => 0)), fun k => ([z0, z1, z2, z3] : List Nat).getD k 0, ⟨?_, ?_⟩, lw_nest hts⟩
  · intro k q hq
    match k, hq with
    | 0, hq => cases hq; exact h0
    | 1, hq => cases hq; exact h1
    | 2, hq => cases hq; exact h2
    | 3, hq => cases hq; exact h3
    | 4, hq => cases hq; exact h4
    | 5, hq => cases hq; exact h5
    | 6, hq => cases hq; exact h6
    | 7, hq => cases hq; exact h7
    | 8, hq => cases hq; exact h8
    | 9, hq => cases hq; exact h9
    | k + 10, hq => simp [vwCl] at hq
  · intro k q hq
    match k, hq with
    | 0, hq => cases hq; exact ⟨y0, w0⟩
    | 1, hq => cases hq; exact ⟨y1, w1⟩
    | 2, hq => cases hq; exact ⟨y2, w2⟩
    | 3, hq => cases hq; exact ⟨y3, w3⟩
    | k + 4, hq => simp [kk_TY] at hq
theorem lw_st0 {args : Array Value} {s : State} (hts : ∀ w ∈ lw_tbl, w.before args s = true) (h : (Jvm.Cond.and given_1 narrow_1).before args s = true) : ∃ t : Nat, va_Z "PeaCups$Paths" "ONE" "[I" (.ref t) (fun q : Nat => s.heap.size ≤ q) s s.heap ∧ va_T .int t 15 (fun k => .int (kk_ONE k)) (fun q : Nat => s.heap.size ≤ q) s s.heap := by
  have hs := flat_of_before _ h
  have hA : ∀ q : Nat, q < s.heap.size → ¬ (fun q : Nat => s.heap.size ≤ q) q := fun q hq => Nat.not_le.mpr hq
  have harr : (Cond.arrayOf (Term.static "PeaCups$Paths" "ONE" "[I") .int).before args s = true := hs _ (by decide +kernel)
  have hlen : (Term.length (Term.static "PeaCups$Paths" "ONE" "[I")).eval args s none [] s = some (.int (Int32.ofNat 15)) := va_eqt (hs (.eq (.length (Term.static "PeaCups$Paths" "ONE" "[I")) (.int 15)) (by decide +kernel))
  have hel : ∀ j : Nat, j < 15 → (Term.elem (Term.static "PeaCups$Paths" "ONE" "[I") (.int (Int32.ofNat j))).eval args s none [] s = some (.int (kk_ONE j)) := by
    intro j hj
    match j, hj with
    | 0, _ => exact va_eqt (hs (.eq (.elem (Term.static "PeaCups$Paths" "ONE" "[I") (.int 0)) (.int 0)) (by decide +kernel))
    | 1, _ => exact va_eqt (hs (.eq (.elem (Term.static "PeaCups$Paths" "ONE" "[I") (.int 1)) (.int 0)) (by decide +kernel))
    | 2, _ => exact va_eqt (hs (.eq (.elem (Term.static "PeaCups$Paths" "ONE" "[I") (.int 2)) (.int 0)) (by decide +kernel))
    | 3, _ => exact va_eqt (hs (.eq (.elem (Term.static "PeaCups$Paths" "ONE" "[I") (.int 3)) (.int 0)) (by decide +kernel))
    | 4, _ => exact va_eqt (hs (.eq (.elem (Term.static "PeaCups$Paths" "ONE" "[I") (.int 4)) (.int 0)) (by decide +kernel))
    | 5, _ => exact va_eqt (hs (.eq (.elem (Term.static "PeaCups$Paths" "ONE" "[I") (.int 5)) (.int 1)) (by decide +kernel))
    | 6, _ => exact va_eqt (hs (.eq (.elem (Term.static "PeaCups$Paths" "ONE" "[I") (.int 6)) (.int 1)) (by decide +kernel))
    | 7, _ => exact va_eqt (hs (.eq (.elem (Term.static "PeaCups$Paths" "ONE" "[I") (.int 7)) (.int 1)) (by decide +kernel))
    | 8, _ => exact va_eqt (hs (.eq (.elem (Term.static "PeaCups$Paths" "ONE" "[I") (.int 8)) (.int 1)) (by decide +kernel))
    | 9, _ => exact va_eqt (hs (.eq (.elem (Term.static "PeaCups$Paths" "ONE" "[I") (.int 9)) (.int 2)) (by decide +kernel))
    | 10, _ => exact va_eqt (hs (.eq (.elem (Term.static "PeaCups$Paths" "ONE" "[I") (.int 10)) (.int 2)) (by decide +kernel))
    | 11, _ => exact va_eqt (hs (.eq (.elem (Term.static "PeaCups$Paths" "ONE" "[I") (.int 11)) (.int 2)) (by decide +kernel))
    | 12, _ => exact va_eqt (hs (.eq (.elem (Term.static "PeaCups$Paths" "ONE" "[I") (.int 12)) (.int 3)) (by decide +kernel))
    | 13, _ => exact va_eqt (hs (.eq (.elem (Term.static "PeaCups$Paths" "ONE" "[I") (.int 13)) (.int 3)) (by decide +kernel))
    | 14, _ => exact va_eqt (hs (.eq (.elem (Term.static "PeaCups$Paths" "ONE" "[I") (.int 14)) (.int 4)) (by decide +kernel))
    | k + 15, hk => exact absurd hk (by omega)
  obtain ⟨t, ht, hT⟩ := va_Tof (A := fun q : Nat => s.heap.size ≤ q) (f := fun k => .int (kk_ONE k)) (by decide) harr hlen hel hA
  exact ⟨t, va_Zof (hts (.laysStatic "PeaCups$Paths" "ONE" "[I") (List.mem_of_getElem? (i := 542) (by decide +kernel))) (hts (.initialized "PeaCups$Paths") (List.mem_of_getElem? (i := 61) (by decide +kernel))) ht hA, hT⟩
theorem lw_st1 {args : Array Value} {s : State} (hts : ∀ w ∈ lw_tbl, w.before args s = true) (h : (Jvm.Cond.and given_1 narrow_1).before args s = true) : ∃ t : Nat, va_Z "PeaCups$Paths" "OTHER" "[I" (.ref t) (fun q : Nat => s.heap.size ≤ q) s s.heap ∧ va_T .int t 15 (fun k => .int (kk_OTHER k)) (fun q : Nat => s.heap.size ≤ q) s s.heap := by
  have hs := flat_of_before _ h
  have hA : ∀ q : Nat, q < s.heap.size → ¬ (fun q : Nat => s.heap.size ≤ q) q := fun q hq => Nat.not_le.mpr hq
  have harr : (Cond.arrayOf (Term.static "PeaCups$Paths" "OTHER" "[I") .int).before args s = true := hs _ (by decide +kernel)
  have hlen : (Term.length (Term.static "PeaCups$Paths" "OTHER" "[I")).eval args s none [] s = some (.int (Int32.ofNat 15)) := va_eqt (hs (.eq (.length (Term.static "PeaCups$Paths" "OTHER" "[I")) (.int 15)) (by decide +kernel))
  have hel : ∀ j : Nat, j < 15 → (Term.elem (Term.static "PeaCups$Paths" "OTHER" "[I") (.int (Int32.ofNat j))).eval args s none [] s = some (.int (kk_OTHER j)) := by
    intro j hj
    match j, hj with
    | 0, _ => exact va_eqt (hs (.eq (.elem (Term.static "PeaCups$Paths" "OTHER" "[I") (.int 0)) (.int 1)) (by decide +kernel))
    | 1, _ => exact va_eqt (hs (.eq (.elem (Term.static "PeaCups$Paths" "OTHER" "[I") (.int 1)) (.int 2)) (by decide +kernel))
    | 2, _ => exact va_eqt (hs (.eq (.elem (Term.static "PeaCups$Paths" "OTHER" "[I") (.int 2)) (.int 3)) (by decide +kernel))
    | 3, _ => exact va_eqt (hs (.eq (.elem (Term.static "PeaCups$Paths" "OTHER" "[I") (.int 3)) (.int 4)) (by decide +kernel))
    | 4, _ => exact va_eqt (hs (.eq (.elem (Term.static "PeaCups$Paths" "OTHER" "[I") (.int 4)) (.int 5)) (by decide +kernel))
    | 5, _ => exact va_eqt (hs (.eq (.elem (Term.static "PeaCups$Paths" "OTHER" "[I") (.int 5)) (.int 2)) (by decide +kernel))
    | 6, _ => exact va_eqt (hs (.eq (.elem (Term.static "PeaCups$Paths" "OTHER" "[I") (.int 6)) (.int 3)) (by decide +kernel))
    | 7, _ => exact va_eqt (hs (.eq (.elem (Term.static "PeaCups$Paths" "OTHER" "[I") (.int 7)) (.int 4)) (by decide +kernel))
    | 8, _ => exact va_eqt (hs (.eq (.elem (Term.static "PeaCups$Paths" "OTHER" "[I") (.int 8)) (.int 5)) (by decide +kernel))
    | 9, _ => exact va_eqt (hs (.eq (.elem (Term.static "PeaCups$Paths" "OTHER" "[I") (.int 9)) (.int 3)) (by decide +kernel))
    | 10, _ => exact va_eqt (hs (.eq (.elem (Term.static "PeaCups$Paths" "OTHER" "[I") (.int 10)) (.int 4)) (by decide +kernel))
    | 11, _ => exact va_eqt (hs (.eq (.elem (Term.static "PeaCups$Paths" "OTHER" "[I") (.int 11)) (.int 5)) (by decide +kernel))
    | 12, _ => exact va_eqt (hs (.eq (.elem (Term.static "PeaCups$Paths" "OTHER" "[I") (.int 12)) (.int 4)) (by decide +kernel))
    | 13, _ => exact va_eqt (hs (.eq (.elem (Term.static "PeaCups$Paths" "OTHER" "[I") (.int 13)) (.int 5)) (by decide +kernel))
    | 14, _ => exact va_eqt (hs (.eq (.elem (Term.static "PeaCups$Paths" "OTHER" "[I") (.int 14)) (.int 5)) (by decide +kernel))
    | k + 15, hk => exact absurd hk (by omega)
  obtain ⟨t, ht, hT⟩ := va_Tof (A := fun q : Nat => s.heap.size ≤ q) (f := fun k => .int (kk_OTHER k)) (by decide) harr hlen hel hA
  exact ⟨t, va_Zof (hts (.laysStatic "PeaCups$Paths" "OTHER" "[I") (List.mem_of_getElem? (i := 544) (by decide +kernel))) (hts (.initialized "PeaCups$Paths") (List.mem_of_getElem? (i := 61) (by decide +kernel))) ht hA, hT⟩
theorem lw_stat {args : Array Value} {s : State} (hts : ∀ w ∈ lw_tbl, w.before args s = true) (h : (Jvm.Cond.and given_1 narrow_1).before args s = true) : ∃ st : Nat → Nat, kk_X st (fun q : Nat => s.heap.size ≤ q) s s.heap := by
  obtain ⟨t0, z0, y0⟩ := lw_st0 hts h
  obtain ⟨t1, z1, y1⟩ := lw_st1 hts h
  exact ⟨fun k => ([t0, t1] : List Nat).getD k 0, ⟨z0, y0⟩, ⟨z1, y1⟩⟩
