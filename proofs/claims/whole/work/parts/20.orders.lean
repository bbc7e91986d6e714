abbrev rm_C_isWatcher : Room := { frames := 0, cells := 0, slots := 0, locals := 0 }
theorem nd_C_isWatcher : yX9_isWatcher.cls ≠ "java/lang/invoke/MethodHandle" ∧ yX9_isWatcher.cls ≠ "java/lang/invoke/VarHandle" ∧ (parseMethodDescriptor yX9_isWatcher.desc).map (fun d => d.parameters.length) = some 1 := by decide +kernel
set_option maxHeartbeats 4000000 in
set_option maxRecDepth 100000 in
theorem c_C_isWatcher (l : Launch) (p0 : Int32) (u : Int32) (h : f_C_isWatcher p0 = some u) : Met l yX9_isWatcher wsX9_isWatcher rm_C_isWatcher (kk_PS [.int p0]) (vp_Si (fun r => r = u)) 0 0 (fun _ => False) := by
  refine kk_met (cc := cX9_isWatcher) (maxL := 1) (ret := some .boolean) (by decide) rfl (Nat.le_of_ble_eq_true rfl) ?_
  intro p e s m below meth c hx hb hr hml hts hown hlocks hB ls hl Q hQ
  have hN := hB
  have hown : s.vm.findClass RX9 = some m.cls := hown
  have hl : lv_has ls 1 [(0, .int p0)] := hl
  unfold f_C_isWatcher at h
  refine lv_iload_n hx hb dX9_isWatcher_0 rfl (lv_at hl 0 rfl) ?_
  refine lv_if_lt (tgt := 13) hx hb dX9_isWatcher_1 (by decide) (fun c_1 => ?_) (fun c_1 => ?_)
  · have h := kk_t c_1 h
    refine lv_iconst (v := 0) hx hb dX9_isWatcher_13 (by decide) ?_
    exact kk_rz hx hb hr hlocks hQ rfl h dX9_isWatcher_14
  · have h := kk_f c_1 h
    refine lv_iload_n hx hb dX9_isWatcher_4 rfl (lv_at hl 0 rfl) ?_
    refine lv_iconst (v := 4) hx hb dX9_isWatcher_5 (by decide) ?_
    refine lv_icmp_ge (tgt := 13) hx hb dX9_isWatcher_6 (by decide) (fun c_6 => ?_) (fun c_6 => ?_)
    · have h := kk_t c_6 h
      refine lv_iconst (v := 0) hx hb dX9_isWatcher_13 (by decide) ?_
      exact kk_rz hx hb hr hlocks hQ rfl h dX9_isWatcher_14
    · have h := kk_f c_6 h
      refine lv_iconst (v := 1) hx hb dX9_isWatcher_9 (by decide) ?_
      refine lv_goto (tgt := 14) hx hb dX9_isWatcher_10 (by decide) ?_
      exact kk_rz hx hb hr hlocks hQ rfl h dX9_isWatcher_14
abbrev rm_C_isWithin : Room := { frames := 0, cells := 0, slots := 0, locals := 0 }
theorem nd_C_isWithin : yX9_isWithin.cls ≠ "java/lang/invoke/MethodHandle" ∧ yX9_isWithin.cls ≠ "java/lang/invoke/VarHandle" ∧ (parseMethodDescriptor yX9_isWithin.desc).map (fun d => d.parameters.length) = some 3 := by decide +kernel
set_option maxHeartbeats 4000000 in
set_option maxRecDepth 100000 in
theorem c_C_isWithin (l : Launch) (p0 : Int32) (p1 : Int32) (p2 : Int32) (u : Int32) (h : f_C_isWithin p0 p1 p2 = some u) : Met l yX9_isWithin wsX9_isWithin rm_C_isWithin (kk_PS [.int p0, .int p1, .int p2]) (vp_Si (fun r => r = u)) 0 0 (fun _ => False) := by
  refine kk_met (cc := cX9_isWithin) (maxL := 3) (ret := some .boolean) (by decide) rfl (Nat.le_of_ble_eq_true rfl) ?_
  intro p e s m below meth c hx hb hr hml hts hown hlocks hB ls hl Q hQ
  have hN := hB
  have hown : s.vm.findClass RX9 = some m.cls := hown
  have hl : lv_has ls 3 [(0, .int p0), (1, .int p1), (2, .int p2)] := hl
  unfold f_C_isWithin at h
  refine lv_iload_n hx hb dX9_isWithin_0 rfl (lv_at hl 0 rfl) ?_
  refine lv_iload_n hx hb dX9_isWithin_1 rfl (lv_at hl 1 rfl) ?_
  refine lv_icmp_lt (tgt := 14) hx hb dX9_isWithin_2 (by decide) (fun c_2 => ?_) (fun c_2 => ?_)
  · have h := kk_t c_2 h
    refine lv_iconst (v := 0) hx hb dX9_isWithin_14 (by decide) ?_
    exact kk_rz hx hb hr hlocks hQ rfl h dX9_isWithin_15
  · have h := kk_f c_2 h
    refine lv_iload_n hx hb dX9_isWithin_5 rfl (lv_at hl 0 rfl) ?_
    refine lv_iload_n hx hb dX9_isWithin_6 rfl (lv_at hl 2 rfl) ?_
    refine lv_icmp_gt (tgt := 14) hx hb dX9_isWithin_7 (by decide) (fun c_7 => ?_) (fun c_7 => ?_)
    · have h := kk_t c_7 h
      refine lv_iconst (v := 0) hx hb dX9_isWithin_14 (by decide) ?_
      exact kk_rz hx hb hr hlocks hQ rfl h dX9_isWithin_15
    · have h := kk_f c_7 h
      refine lv_iconst (v := 1) hx hb dX9_isWithin_10 (by decide) ?_
      refine lv_goto (tgt := 15) hx hb dX9_isWithin_11 (by decide) ?_
      exact kk_rz hx hb hr hlocks hQ rfl h dX9_isWithin_15
abbrev rm_O_placeOf : Room := { frames := 0, cells := 0, slots := 0, locals := 0 }
theorem nd_O_placeOf : yX2_placeOf.cls ≠ "java/lang/invoke/MethodHandle" ∧ yX2_placeOf.cls ≠ "java/lang/invoke/VarHandle" ∧ (parseMethodDescriptor yX2_placeOf.desc).map (fun d => d.parameters.length) = some 2 := by decide +kernel
set_option maxHeartbeats 4000000 in
set_option maxRecDepth 100000 in
theorem c_O_placeOf (l : Launch) (p0 : Int32) (p1 : Int32) (u : Int32) (h : f_O_placeOf p0 p1 = some u) : Met l yX2_placeOf wsX2_placeOf rm_O_placeOf (kk_PS [.int p0, .int p1]) (vp_Si (fun r => r = u)) 0 0 (fun _ => False) := by
  refine kk_met (cc := cX2_placeOf) (maxL := 3) (ret := some .int) (by decide) rfl (Nat.le_of_ble_eq_true rfl) ?_
  intro p e s m below meth c hx hb hr hml hts hown hlocks hB ls hl Q hQ
  have hN := hB
  have hown : s.vm.findClass RX2 = some m.cls := hown
  have hl : lv_has ls 3 [(0, .int p0), (1, .int p1)] := hl
  unfold f_O_placeOf at h
  have L_2 : ∀ (x0 : Int32) (x1 : Int32) (n_2 : Nat) (x2 : Int32) (ls : Array Slot) (hl : lv_has ls 3 [(0, .int x0), (1, .int x1), (2, .int x2)]) (h : it1 (bd_O_placeOf_2 x0 x1) n_2 x2 = some u), W p l e rm_O_placeOf s m [.int p0, .int p1].toArray below meth c s.heap [] 0 0 Q (F0 m 2 ls []) := by
    intro x0 x1 n_2
    induction n_2 with
    | zero => intro x2 ls hl h; exact kk_no h
    | succ n_2 ih_2 =>
      intro x2 ls hl h
      have h : bd_O_placeOf_2 x0 x1 (it1 (bd_O_placeOf_2 x0 x1) n_2) x2 = some u := h
      unfold bd_O_placeOf_2 at h
      refine lv_iload_n hx hb dX2_placeOf_2 rfl (lv_at hl 2 rfl) ?_
      refine lv_bipush (v := 6) hx hb dX2_placeOf_3 (by decide) ?_
      refine lv_icmp_ge (tgt := 28) hx hb dX2_placeOf_5 (by decide) (fun c_5 => ?_) (fun c_5 => ?_)
      · have h := kk_t c_5 h
        refine lv_bipush (v := (-6)) hx hb dX2_placeOf_28 (by decide) ?_
        exact kk_ri hx hb hr hlocks hQ h dX2_placeOf_30
      · have h := kk_f c_5 h
        refine lv_iload_n hx hb dX2_placeOf_8 rfl (lv_at hl 0 rfl) ?_
        refine lv_iconst (v := 3) hx hb dX2_placeOf_9 (by decide) ?_
        refine lv_iload_n hx hb dX2_placeOf_10 rfl (lv_at hl 2 rfl) ?_
        refine lv_imul hx hb dX2_placeOf_11 ?_
        refine lv_ishr hx hb dX2_placeOf_12 ?_
        refine lv_bipush (v := 7) hx hb dX2_placeOf_13 (by decide) ?_
        refine lv_iand hx hb dX2_placeOf_15 ?_
        refine lv_iload_n hx hb dX2_placeOf_16 rfl (lv_at hl 1 rfl) ?_
        refine lv_icmp_ne (tgt := 22) hx hb dX2_placeOf_17 (by decide) (fun c_17 => ?_) (fun c_17 => ?_)
        · have h := kk_f c_17 h
          refine lv_iinc (v := x2 + 1) (lv' := [(2, .int (x2 + 1)), (0, .int x0), (1, .int x1)]) hx hb dX2_placeOf_22 hl (k := 2) rfl rfl (by decide) rfl (fun ls hl => ?_)
          refine lv_goto (tgt := 2) hx hb dX2_placeOf_25 (by decide) ?_
          exact ih_2 (x2 + 1) _ (lv_sub hl [1, 2, 0] rfl) h
        · have h := kk_t c_17 h
          refine lv_iload_n hx hb dX2_placeOf_20 rfl (lv_at hl 2 rfl) ?_
          exact kk_ri hx hb hr hlocks hQ h dX2_placeOf_21
  refine lv_iconst (v := 0) hx hb dX2_placeOf_0 (by decide) ?_
  refine lv_istore_n (lv' := [(2, .int 0), (0, .int p0), (1, .int p1)]) hx hb dX2_placeOf_1 rfl hl (by decide) rfl (fun ls hl => ?_)
  exact L_2 p0 p1 _ 0 _ (lv_sub hl [1, 2, 0] rfl) h
abbrev rm_O_changed : Room := { frames := 0, cells := 0, slots := 0, locals := 0 }
theorem nd_O_changed : yX2_changed.cls ≠ "java/lang/invoke/MethodHandle" ∧ yX2_changed.cls ≠ "java/lang/invoke/VarHandle" ∧ (parseMethodDescriptor yX2_changed.desc).map (fun d => d.parameters.length) = some 3 := by decide +kernel
set_option maxHeartbeats 4000000 in
set_option maxRecDepth 100000 in
theorem c_O_changed (l : Launch) (p0 : Int32) (p1 : Int32) (p2 : Int32) (u : Int32) (h : f_O_changed p0 p1 p2 = some u) : Met l yX2_changed wsX2_changed rm_O_changed (kk_PS [.int p0, .int p1, .int p2]) (vp_Si (fun r => r = u)) 0 0 (fun _ => False) := by
  refine kk_met (cc := cX2_changed) (maxL := 4) (ret := some .int) (by decide) rfl (Nat.le_of_ble_eq_true rfl) ?_
  intro p e s m below meth c hx hb hr hml hts hown hlocks hB ls hl Q hQ
  have hN := hB
  have hown : s.vm.findClass RX2 = some m.cls := hown
  have hl : lv_has ls 4 [(0, .int p0), (1, .int p1), (2, .int p2)] := hl
  unfold f_O_changed at h
  refine lv_iload_n hx hb dX2_changed_0 rfl (lv_at hl 0 rfl) ?_
  refine lv_iconst (v := 3) hx hb dX2_changed_1 (by decide) ?_
  refine lv_iload_n hx hb dX2_changed_2 rfl (lv_at hl 1 rfl) ?_
  refine lv_imul hx hb dX2_changed_3 ?_
  refine lv_ishr hx hb dX2_changed_4 ?_
  refine lv_iload_n hx hb dX2_changed_5 rfl (lv_at hl 0 rfl) ?_
  refine lv_iconst (v := 3) hx hb dX2_changed_6 (by decide) ?_
  refine lv_iload_n hx hb dX2_changed_7 rfl (lv_at hl 2 rfl) ?_
  refine lv_imul hx hb dX2_changed_8 ?_
  refine lv_ishr hx hb dX2_changed_9 ?_
  refine lv_ixor hx hb dX2_changed_10 ?_
  refine lv_bipush (v := 7) hx hb dX2_changed_11 (by decide) ?_
  refine lv_iand hx hb dX2_changed_13 ?_
  refine lv_istore_n (lv' := [(3, .int (((p0 >>> ((3 * p1) &&& 31)) ^^^ (p0 >>> ((3 * p2) &&& 31))) &&& 7)), (0, .int p0), (1, .int p1), (2, .int p2)]) hx hb dX2_changed_14 rfl hl (by decide) rfl (fun ls hl => ?_)
  refine lv_iload_n hx hb dX2_changed_15 rfl (lv_at hl 1 rfl) ?_
  refine lv_iload_n hx hb dX2_changed_16 rfl (lv_at hl 0 rfl) ?_
  refine lv_iconst (v := 3) hx hb dX2_changed_17 (by decide) ?_
  refine lv_iload_n hx hb dX2_changed_18 rfl (lv_at hl 2 rfl) ?_
  refine lv_imul hx hb dX2_changed_19 ?_
  refine lv_ishl hx hb dX2_changed_20 ?_
  refine lv_ixor hx hb dX2_changed_21 ?_
  refine lv_iload_n hx hb dX2_changed_22 rfl (lv_at hl 0 rfl) ?_
  refine lv_iconst (v := 3) hx hb dX2_changed_23 (by decide) ?_
  refine lv_iload_n hx hb dX2_changed_24 rfl (lv_at hl 3 rfl) ?_
  refine lv_imul hx hb dX2_changed_25 ?_
  refine lv_ishl hx hb dX2_changed_26 ?_
  refine lv_ixor hx hb dX2_changed_27 ?_
  exact kk_ri hx hb hr hlocks hQ h dX2_changed_28
abbrev rm_O_cupOn : Room := { frames := 0, cells := 0, slots := 0, locals := 0 }
theorem nd_O_cupOn : yX2_cupOn.cls ≠ "java/lang/invoke/MethodHandle" ∧ yX2_cupOn.cls ≠ "java/lang/invoke/VarHandle" ∧ (parseMethodDescriptor yX2_cupOn.desc).map (fun d => d.parameters.length) = some 2 := by decide +kernel
set_option maxHeartbeats 4000000 in
set_option maxRecDepth 100000 in
theorem c_O_cupOn (l : Launch) (p0 : Int32) (p1 : Int32) (u : Int32) (h : f_O_cupOn p0 p1 = some u) : Met l yX2_cupOn wsX2_cupOn rm_O_cupOn (kk_PS [.int p0, .int p1]) (vp_Si (fun r => r = u)) 0 0 (fun _ => False) := by
  refine kk_met (cc := cX2_cupOn) (maxL := 2) (ret := some .int) (by decide) rfl (Nat.le_of_ble_eq_true rfl) ?_
  intro p e s m below meth c hx hb hr hml hts hown hlocks hB ls hl Q hQ
  have hN := hB
  have hown : s.vm.findClass RX2 = some m.cls := hown
  have hl : lv_has ls 2 [(0, .int p0), (1, .int p1)] := hl
  unfold f_O_cupOn at h
  refine lv_iload_n hx hb dX2_cupOn_0 rfl (lv_at hl 0 rfl) ?_
  refine lv_iconst (v := 3) hx hb dX2_cupOn_1 (by decide) ?_
  refine lv_iload_n hx hb dX2_cupOn_2 rfl (lv_at hl 1 rfl) ?_
  refine lv_imul hx hb dX2_cupOn_3 ?_
  refine lv_ishr hx hb dX2_cupOn_4 ?_
  refine lv_bipush (v := 7) hx hb dX2_cupOn_5 (by decide) ?_
  refine lv_iand hx hb dX2_cupOn_7 ?_
  exact kk_ri hx hb hr hlocks hQ h dX2_cupOn_8
abbrev rm_O_ofRow : Room := { frames := 1, cells := 0, slots := 0, locals := 22 }
theorem nd_O_ofRow : yX2_ofRow.cls ≠ "java/lang/invoke/MethodHandle" ∧ yX2_ofRow.cls ≠ "java/lang/invoke/VarHandle" ∧ (parseMethodDescriptor yX2_ofRow.desc).map (fun d => d.parameters.length) = some 1 := by decide +kernel
set_option maxHeartbeats 4000000 in
set_option maxRecDepth 100000 in
theorem c_O_ofRow (l : Launch) (p0 : Int32) (u : Int32) (h : f_O_ofRow p0 = some u) : Met l yX2_ofRow wsX2_ofRow rm_O_ofRow (kk_PS [.int p0]) (vp_Si (fun r => r = u)) 0 0 (fun _ => False) := by
  refine kk_met (cc := cX2_ofRow) (maxL := 6) (ret := some .int) (by decide) rfl (Nat.le_of_ble_eq_true rfl) ?_
  intro p e s m below meth c hx hb hr hml hts hown hlocks hB ls hl Q hQ
  have hN := hB
  have hown : s.vm.findClass RX2 = some m.cls := hown
  have hl : lv_has ls 6 [(0, .int p0)] := hl
  unfold f_O_ofRow at h
  have L_22 : ∀ (n_22 : Nat) (x1 : Int32) (x2 : Int32) (x3 : Int32) (x4 : Int32) (ls : Array Slot) (hl : lv_has ls 6 [(1, .int x1), (2, .int x2), (3, .int x3), (4, .int x4)]) (h : it4 (bd_O_ofRow_22) n_22 x1 x2 x3 x4 = some u), W p l e rm_O_ofRow s m [.int p0].toArray below meth c s.heap [] 0 0 Q (F0 m 22 ls []) := by
    intro n_22
    induction n_22 with
    | zero => intro x1 x2 x3 x4 ls hl h; exact kk_no h
    | succ n_22 ih_22 =>
      intro x1 x2 x3 x4 ls hl h
      have h : bd_O_ofRow_22 (it4 (bd_O_ofRow_22) n_22) x1 x2 x3 x4 = some u := h
      unfold bd_O_ofRow_22 at h
      refine lv_iload hx hb dX2_ofRow_22 (lv_at hl 3 rfl) ?_
      refine lv_if_lt (tgt := 64) hx hb dX2_ofRow_24 (by decide) (fun c_24 => ?_) (fun c_24 => ?_)
      · have h := kk_t c_24 h
        refine lv_iload_n hx hb dX2_ofRow_64 rfl (lv_at hl 1 rfl) ?_
        refine lv_bipush (v := 63) hx hb dX2_ofRow_65 (by decide) ?_
        refine lv_icmp_ne (tgt := 74) hx hb dX2_ofRow_67 (by decide) (fun c_67 => ?_) (fun c_67 => ?_)
        · have h := kk_f c_67 h
          refine lv_bipush (v := (-6)) hx hb dX2_ofRow_74 (by decide) ?_
          exact kk_ri hx hb hr hlocks hQ h dX2_ofRow_76
        · have h := kk_t c_67 h
          refine lv_iload_n hx hb dX2_ofRow_70 rfl (lv_at hl 0 rfl) ?_
          refine lv_goto (tgt := 76) hx hb dX2_ofRow_71 (by decide) ?_
          exact kk_ri hx hb hr hlocks hQ h dX2_ofRow_76
      · have h := kk_f c_24 h
        refine lv_iload_n hx hb dX2_ofRow_27 rfl (lv_at hl 2 rfl) ?_
        refine lv_bipush (v := 10) hx hb dX2_ofRow_28 (by decide) ?_
        refine lv_irem hx hb dX2_ofRow_30 (by decide) ?_
        refine lv_istore (lv' := [(5, .int (x3 - x3 / 10 * 10)), (1, .int x1), (2, .int x2), (3, .int x3), (4, .int x4)]) hx hb dX2_ofRow_31 hl (by decide) rfl (fun ls hl => ?_)
        refine lv_iload_n hx hb dX2_ofRow_33 rfl (lv_at hl 3 rfl) ?_
        refine lv_bipush (v := 10) hx hb dX2_ofRow_34 (by decide) ?_
        refine lv_idiv hx hb dX2_ofRow_36 (by decide) ?_
        refine lv_istore_n (lv' := [(3, .int (x3 / 10)), (5, .int (x3 - x3 / 10 * 10)), (1, .int x1), (2, .int x2), (4, .int x4)]) hx hb dX2_ofRow_37 rfl hl (by decide) rfl (fun ls hl => ?_)
        refine lv_iload_n hx hb dX2_ofRow_38 rfl (lv_at hl 2 rfl) ?_
        refine lv_iload hx hb dX2_ofRow_39 (lv_at hl 1 rfl) ?_
        refine lv_bipush (v := 7) hx hb dX2_ofRow_41 (by decide) ?_
        refine lv_iand hx hb dX2_ofRow_43 ?_
        refine lv_iconst (v := 3) hx hb dX2_ofRow_44 (by decide) ?_
        refine lv_iload hx hb dX2_ofRow_45 (lv_at hl 4 rfl) ?_
        refine lv_imul hx hb dX2_ofRow_47 ?_
        refine lv_ishl hx hb dX2_ofRow_48 ?_
        refine lv_ior hx hb dX2_ofRow_49 ?_
        refine lv_istore_n (lv' := [(1, .int (x1 ||| (((x3 - x3 / 10 * 10) &&& 7) <<< ((3 * x4) &&& 31)))), (3, .int (x3 / 10)), (5, .int (x3 - x3 / 10 * 10)), (2, .int x2), (4, .int x4)]) hx hb dX2_ofRow_50 rfl hl (by decide) rfl (fun ls hl => ?_)
        refine lv_iload_n hx hb dX2_ofRow_51 rfl (lv_at hl 3 rfl) ?_
        refine lv_iconst (v := 1) hx hb dX2_ofRow_52 (by decide) ?_
        refine lv_iload hx hb dX2_ofRow_53 (lv_at hl 2 rfl) ?_
        refine lv_ishl hx hb dX2_ofRow_55 ?_
        refine lv_ior hx hb dX2_ofRow_56 ?_
        refine lv_istore_n (lv' := [(2, .int (x2 ||| ((1 : Int32) <<< ((x3 - x3 / 10 * 10) &&& 31)))), (1, .int (x1 ||| (((x3 - x3 / 10 * 10) &&& 7) <<< ((3 * x4) &&& 31)))), (3, .int (x3 / 10)), (5, .int (x3 - x3 / 10 * 10)), (4, .int x4)]) hx hb dX2_ofRow_57 rfl hl (by decide) rfl (fun ls hl => ?_)
        refine lv_iinc (v := x4 + (-1)) (lv' := [(4, .int (x4 + (-1))), (2, .int (x2 ||| ((1 : Int32) <<< ((x3 - x3 / 10 * 10) &&& 31)))), (1, .int (x1 ||| (((x3 - x3 / 10 * 10) &&& 7) <<< ((3 * x4) &&& 31)))), (3, .int (x3 / 10)), (5, .int (x3 - x3 / 10 * 10))]) hx hb dX2_ofRow_58 hl (k := 4) rfl rfl (by decide) rfl (fun ls hl => ?_)
        refine lv_goto (tgt := 22) hx hb dX2_ofRow_61 (by decide) ?_
        exact ih_22 (x1 ||| (((x3 - x3 / 10 * 10) &&& 7) <<< ((3 * x4) &&& 31))) (x2 ||| ((1 : Int32) <<< ((x3 - x3 / 10 * 10) &&& 31))) (x3 / 10) (x4 + (-1)) _ (lv_sub hl [2, 1, 3, 0] rfl) h
  refine lv_iload_n hx hb dX2_ofRow_0 rfl (lv_at hl 0 rfl) ?_
  refine lv_iconst (v := 0) hx hb dX2_ofRow_1 (by decide) ?_
  refine lv_ldc hx hb hown (hts (.constant RX2 11 (543210)) (List.mem_of_getElem? (i := 1) rfl)) dX2_ofRow_2 ?_
  obtain ⟨u_4, h_4, h⟩ := kk_b h
  refine kk_si (va_runSN (As := [.int p0, .int 0, .int 543210]) (rest := []) ⟨hx, hb, hml, hown, hts⟩ (c_C_isWithin l p0 0 543210 u_4 h_4) ⟨va_cnB 3 hts ggX2_ofRow_X9_isWithin rfl rfl rfl (hN _ (List.mem_of_getElem? (i := 11) rfl)) (hts (.initialized RX9) (List.mem_of_getElem? (i := 3) rfl)) nd_C_isWithin ⟨Nat.le_of_ble_eq_true rfl, Nat.le_of_ble_eq_true rfl⟩, (hts (.static yX9_isWithin) (List.mem_of_getElem? (i := 2) rfl)), trivial⟩ (kk_preS hN) rfl rfl hl.1 rfl (lv_room (Nat.le_of_ble_eq_true rfl)) dX2_ofRow_4 ⟨Nat.zero_le _, Nat.zero_le _⟩) ?_
  refine lv_if_ne (tgt := 13) hx hb dX2_ofRow_7 (by decide) (fun c_7 => ?_) (fun c_7 => ?_)
  · have h := kk_f c_7 h
    refine lv_iconst (v := 0) hx hb dX2_ofRow_13 (by decide) ?_
    refine lv_istore_n (lv' := [(1, .int 0), (0, .int p0)]) hx hb dX2_ofRow_14 rfl hl (by decide) rfl (fun ls hl => ?_)
    refine lv_iconst (v := 0) hx hb dX2_ofRow_15 (by decide) ?_
    refine lv_istore_n (lv' := [(2, .int 0), (1, .int 0), (0, .int p0)]) hx hb dX2_ofRow_16 rfl hl (by decide) rfl (fun ls hl => ?_)
    refine lv_iload_n hx hb dX2_ofRow_17 rfl (lv_at hl 2 rfl) ?_
    refine lv_istore_n (lv' := [(3, .int p0), (2, .int 0), (1, .int 0), (0, .int p0)]) hx hb dX2_ofRow_18 rfl hl (by decide) rfl (fun ls hl => ?_)
    refine lv_iconst (v := 5) hx hb dX2_ofRow_19 (by decide) ?_
    refine lv_istore (lv' := [(4, .int 5), (3, .int p0), (2, .int 0), (1, .int 0), (0, .int p0)]) hx hb dX2_ofRow_20 hl (by decide) rfl (fun ls hl => ?_)
    exact L_22 _ 0 0 p0 5 _ (lv_sub hl [3, 2, 1, 0] rfl) h
  · have h := kk_t c_7 h
    refine lv_bipush (v := (-6)) hx hb dX2_ofRow_10 (by decide) ?_
    exact kk_ri hx hb hr hlocks hQ h dX2_ofRow_12
abbrev rm_J_bitCount : Room := { frames := 0, cells := 0, slots := 0, locals := 0 }
theorem nd_J_bitCount : yJ6_bitCount_0f7a4.cls ≠ "java/lang/invoke/MethodHandle" ∧ yJ6_bitCount_0f7a4.cls ≠ "java/lang/invoke/VarHandle" ∧ (parseMethodDescriptor yJ6_bitCount_0f7a4.desc).map (fun d => d.parameters.length) = some 1 := by decide +kernel
set_option maxHeartbeats 4000000 in
set_option maxRecDepth 100000 in
theorem c_J_bitCount (l : Launch) (p0 : Int32) (u : Int32) (h : f_J_bitCount p0 = some u) : Met l yJ6_bitCount_0f7a4 wsJ6_bitCount_0f7a4 rm_J_bitCount (kk_PS [.int p0]) (vp_Si (fun r => r = u)) 0 0 (fun _ => False) := by
  refine kk_met (cc := cJ6_bitCount_0f7a4) (maxL := 1) (ret := some .int) (by decide) rfl (Nat.le_of_ble_eq_true rfl) ?_
  intro p e s m below meth c hx hb hr hml hts hown hlocks hB ls hl Q hQ
  have hN := hB
  have hown : s.vm.findClass RJ6 = some m.cls := hown
  have hl : lv_has ls 1 [(0, .int p0)] := hl
  unfold f_J_bitCount at h
  refine lv_iload_n hx hb dJ6_bitCount_0f7a4_0 rfl (lv_at hl 0 rfl) ?_
  refine lv_iload_n hx hb dJ6_bitCount_0f7a4_1 rfl (lv_at hl 0 rfl) ?_
  refine lv_iconst (v := 1) hx hb dJ6_bitCount_0f7a4_2 (by decide) ?_
  refine lv_iushr hx hb dJ6_bitCount_0f7a4_3 rfl ?_
  refine lv_ldcw hx hb hown (hts (.constant RJ6 265 (1431655765)) (List.mem_of_getElem? (i := 1) rfl)) dJ6_bitCount_0f7a4_4 ?_
  refine lv_iand hx hb dJ6_bitCount_0f7a4_7 ?_
  refine lv_isub hx hb dJ6_bitCount_0f7a4_8 ?_
  refine lv_istore_n (lv' := [(0, .int (p0 - (((Int32.toUInt32 p0 >>> (Int32.toUInt32 1 &&& Int32.toUInt32 31)).toInt32) &&& 1431655765)))]) hx hb dJ6_bitCount_0f7a4_9 rfl hl (by decide) rfl (fun ls hl => ?_)
  refine lv_iload_n hx hb dJ6_bitCount_0f7a4_10 rfl (lv_at hl 0 rfl) ?_
  refine lv_ldcw hx hb hown (hts (.constant RJ6 266 (858993459)) (List.mem_of_getElem? (i := 2) rfl)) dJ6_bitCount_0f7a4_11 ?_
  refine lv_iand hx hb dJ6_bitCount_0f7a4_14 ?_
  refine lv_iload_n hx hb dJ6_bitCount_0f7a4_15 rfl (lv_at hl 0 rfl) ?_
  refine lv_iconst (v := 2) hx hb dJ6_bitCount_0f7a4_16 (by decide) ?_
  refine lv_iushr hx hb dJ6_bitCount_0f7a4_17 rfl ?_
  refine lv_ldcw hx hb hown (hts (.constant RJ6 266 (858993459)) (List.mem_of_getElem? (i := 2) rfl)) dJ6_bitCount_0f7a4_18 ?_
  refine lv_iand hx hb dJ6_bitCount_0f7a4_21 ?_
  refine lv_iadd hx hb dJ6_bitCount_0f7a4_22 ?_
  refine lv_istore_n (lv' := [(0, .int (((p0 - (((Int32.toUInt32 p0 >>> (Int32.toUInt32 1 &&& Int32.toUInt32 31)).toInt32) &&& 1431655765)) &&& 858993459) + (((Int32.toUInt32 (p0 - (((Int32.toUInt32 p0 >>> (Int32.toUInt32 1 &&& Int32.toUInt32 31)).toInt32) &&& 1431655765)) >>> (Int32.toUInt32 2 &&& Int32.toUInt32 31)).toInt32) &&& 858993459)))]) hx hb dJ6_bitCount_0f7a4_23 rfl hl (by decide) rfl (fun ls hl => ?_)
  refine lv_iload_n hx hb dJ6_bitCount_0f7a4_24 rfl (lv_at hl 0 rfl) ?_
  refine lv_iload_n hx hb dJ6_bitCount_0f7a4_25 rfl (lv_at hl 0 rfl) ?_
  refine lv_iconst (v := 4) hx hb dJ6_bitCount_0f7a4_26 (by decide) ?_
  refine lv_iushr hx hb dJ6_bitCount_0f7a4_27 rfl ?_
  refine lv_iadd hx hb dJ6_bitCount_0f7a4_28 ?_
  refine lv_ldcw hx hb hown (hts (.constant RJ6 267 (252645135)) (List.mem_of_getElem? (i := 3) rfl)) dJ6_bitCount_0f7a4_29 ?_
  refine lv_iand hx hb dJ6_bitCount_0f7a4_32 ?_
  refine lv_istore_n (lv' := [(0, .int (((((p0 - (((Int32.toUInt32 p0 >>> (Int32.toUInt32 1 &&& Int32.toUInt32 31)).toInt32) &&& 1431655765)) &&& 858993459) + (((Int32.toUInt32 (p0 - (((Int32.toUInt32 p0 >>> (Int32.toUInt32 1 &&& Int32.toUInt32 31)).toInt32) &&& 1431655765)) >>> (Int32.toUInt32 2 &&& Int32.toUInt32 31)).toInt32) &&& 858993459)) + ((Int32.toUInt32 (((p0 - (((Int32.toUInt32 p0 >>> (Int32.toUInt32 1 &&& Int32.toUInt32 31)).toInt32) &&& 1431655765)) &&& 858993459) + (((Int32.toUInt32 (p0 - (((Int32.toUInt32 p0 >>> (Int32.toUInt32 1 &&& Int32.toUInt32 31)).toInt32) &&& 1431655765)) >>> (Int32.toUInt32 2 &&& Int32.toUInt32 31)).toInt32) &&& 858993459)) >>> (Int32.toUInt32 4 &&& Int32.toUInt32 31)).toInt32)) &&& 252645135))]) hx hb dJ6_bitCount_0f7a4_33 rfl hl (by decide) rfl (fun ls hl => ?_)
  refine lv_iload_n hx hb dJ6_bitCount_0f7a4_34 rfl (lv_at hl 0 rfl) ?_
  refine lv_iload_n hx hb dJ6_bitCount_0f7a4_35 rfl (lv_at hl 0 rfl) ?_
  refine lv_bipush (v := 8) hx hb dJ6_bitCount_0f7a4_36 (by decide) ?_
  refine lv_iushr hx hb dJ6_bitCount_0f7a4_38 rfl ?_
  refine lv_iadd hx hb dJ6_bitCount_0f7a4_39 ?_
  refine lv_istore_n (lv' := [(0, .int ((((((p0 - (((Int32.toUInt32 p0 >>> (Int32.toUInt32 1 &&& Int32.toUInt32 31)).toInt32) &&& 1431655765)) &&& 858993459) + (((Int32.toUInt32 (p0 - (((Int32.toUInt32 p0 >>> (Int32.toUInt32 1 &&& Int32.toUInt32 31)).toInt32) &&& 1431655765)) >>> (Int32.toUInt32 2 &&& Int32.toUInt32 31)).toInt32) &&& 858993459)) + ((Int32.toUInt32 (((p0 - (((Int32.toUInt32 p0 >>> (Int32.toUInt32 1 &&& Int32.toUInt32 31)).toInt32) &&& 1431655765)) &&& 858993459) + (((Int32.toUInt32 (p0 - (((Int32.toUInt32 p0 >>> (Int32.toUInt32 1 &&& Int32.toUInt32 31)).toInt32) &&& 1431655765)) >>> (Int32.toUInt32 2 &&& Int32.toUInt32 31)).toInt32) &&& 858993459)) >>> (Int32.toUInt32 4 &&& Int32.toUInt32 31)).toInt32)) &&& 252645135) + ((Int32.toUInt32 (((((p0 - (((Int32.toUInt32 p0 >>> (Int32.toUInt32 1 &&& Int32.toUInt32 31)).toInt32) &&& 1431655765)) &&& 858993459) + (((Int32.toUInt32 (p0 - (((Int32.toUInt32 p0 >>> (Int32.toUInt32 1 &&& Int32.toUInt32 31)).toInt32) &&& 1431655765)) >>> (Int32.toUInt32 2 &&& Int32.toUInt32 31)).toInt32) &&& 858993459)) + ((Int32.toUInt32 (((p0 - (((Int32.toUInt32 p0 >>> (Int32.toUInt32 1 &&& Int32.toUInt32 31)).toInt32) &&& 1431655765)) &&& 858993459) + (((Int32.toUInt32 (p0 - (((Int32.toUInt32 p0 >>> (Int32.toUInt32 1 &&& Int32.toUInt32 31)).toInt32) &&& 1431655765)) >>> (Int32.toUInt32 2 &&& Int32.toUInt32 31)).toInt32) &&& 858993459)) >>> (Int32.toUInt32 4 &&& Int32.toUInt32 31)).toInt32)) &&& 252645135) >>> (Int32.toUInt32 8 &&& Int32.toUInt32 31)).toInt32)))]) hx hb dJ6_bitCount_0f7a4_40 rfl hl (by decide) rfl (fun ls hl => ?_)
  refine lv_iload_n hx hb dJ6_bitCount_0f7a4_41 rfl (lv_at hl 0 rfl) ?_
  refine lv_iload_n hx hb dJ6_bitCount_0f7a4_42 rfl (lv_at hl 0 rfl) ?_
  refine lv_bipush (v := 16) hx hb dJ6_bitCount_0f7a4_43 (by decide) ?_
  refine lv_iushr hx hb dJ6_bitCount_0f7a4_45 rfl ?_
  refine lv_iadd hx hb dJ6_bitCount_0f7a4_46 ?_
  refine lv_istore_n (lv' := [(0, .int (((((((p0 - (((Int32.toUInt32 p0 >>> (Int32.toUInt32 1 &&& Int32.toUInt32 31)).toInt32) &&& 1431655765)) &&& 858993459) + (((Int32.toUInt32 (p0 - (((Int32.toUInt32 p0 >>> (Int32.toUInt32 1 &&& Int32.toUInt32 31)).toInt32) &&& 1431655765)) >>> (Int32.toUInt32 2 &&& Int32.toUInt32 31)).toInt32) &&& 858993459)) + ((Int32.toUInt32 (((p0 - (((Int32.toUInt32 p0 >>> (Int32.toUInt32 1 &&& Int32.toUInt32 31)).toInt32) &&& 1431655765)) &&& 858993459) + (((Int32.toUInt32 (p0 - (((Int32.toUInt32 p0 >>> (Int32.toUInt32 1 &&& Int32.toUInt32 31)).toInt32) &&& 1431655765)) >>> (Int32.toUInt32 2 &&& Int32.toUInt32 31)).toInt32) &&& 858993459)) >>> (Int32.toUInt32 4 &&& Int32.toUInt32 31)).toInt32)) &&& 252645135) + ((Int32.toUInt32 (((((p0 - (((Int32.toUInt32 p0 >>> (Int32.toUInt32 1 &&& Int32.toUInt32 31)).toInt32) &&& 1431655765)) &&& 858993459) + (((Int32.toUInt32 (p0 - (((Int32.toUInt32 p0 >>> (Int32.toUInt32 1 &&& Int32.toUInt32 31)).toInt32) &&& 1431655765)) >>> (Int32.toUInt32 2 &&& Int32.toUInt32 31)).toInt32) &&& 858993459)) + ((Int32.toUInt32 (((p0 - (((Int32.toUInt32 p0 >>> (Int32.toUInt32 1 &&& Int32.toUInt32 31)).toInt32) &&& 1431655765)) &&& 858993459) + (((Int32.toUInt32 (p0 - (((Int32.toUInt32 p0 >>> (Int32.toUInt32 1 &&& Int32.toUInt32 31)).toInt32) &&& 1431655765)) >>> (Int32.toUInt32 2 &&& Int32.toUInt32 31)).toInt32) &&& 858993459)) >>> (Int32.toUInt32 4 &&& Int32.toUInt32 31)).toInt32)) &&& 252645135) >>> (Int32.toUInt32 8 &&& Int32.toUInt32 31)).toInt32)) + ((Int32.toUInt32 ((((((p0 - (((Int32.toUInt32 p0 >>> (Int32.toUInt32 1 &&& Int32.toUInt32 31)).toInt32) &&& 1431655765)) &&& 858993459) + (((Int32.toUInt32 (p0 - (((Int32.toUInt32 p0 >>> (Int32.toUInt32 1 &&& Int32.toUInt32 31)).toInt32) &&& 1431655765)) >>> (Int32.toUInt32 2 &&& Int32.toUInt32 31)).toInt32) &&& 858993459)) + ((Int32.toUInt32 (((p0 - (((Int32.toUInt32 p0 >>> (Int32.toUInt32 1 &&& Int32.toUInt32 31)).toInt32) &&& 1431655765)) &&& 858993459) + (((Int32.toUInt32 (p0 - (((Int32.toUInt32 p0 >>> (Int32.toUInt32 1 &&& Int32.toUInt32 31)).toInt32) &&& 1431655765)) >>> (Int32.toUInt32 2 &&& Int32.toUInt32 31)).toInt32) &&& 858993459)) >>> (Int32.toUInt32 4 &&& Int32.toUInt32 31)).toInt32)) &&& 252645135) + ((Int32.toUInt32 (((((p0 - (((Int32.toUInt32 p0 >>> (Int32.toUInt32 1 &&& Int32.toUInt32 31)).toInt32) &&& 1431655765)) &&& 858993459) + (((Int32.toUInt32 (p0 - (((Int32.toUInt32 p0 >>> (Int32.toUInt32 1 &&& Int32.toUInt32 31)).toInt32) &&& 1431655765)) >>> (Int32.toUInt32 2 &&& Int32.toUInt32 31)).toInt32) &&& 858993459)) + ((Int32.toUInt32 (((p0 - (((Int32.toUInt32 p0 >>> (Int32.toUInt32 1 &&& Int32.toUInt32 31)).toInt32) &&& 1431655765)) &&& 858993459) + (((Int32.toUInt32 (p0 - (((Int32.toUInt32 p0 >>> (Int32.toUInt32 1 &&& Int32.toUInt32 31)).toInt32) &&& 1431655765)) >>> (Int32.toUInt32 2 &&& Int32.toUInt32 31)).toInt32) &&& 858993459)) >>> (Int32.toUInt32 4 &&& Int32.toUInt32 31)).toInt32)) &&& 252645135) >>> (Int32.toUInt32 8 &&& Int32.toUInt32 31)).toInt32)) >>> (Int32.toUInt32 16 &&& Int32.toUInt32 31)).toInt32)))]) hx hb dJ6_bitCount_0f7a4_47 rfl hl (by decide) rfl (fun ls hl => ?_)
  refine lv_iload_n hx hb dJ6_bitCount_0f7a4_48 rfl (lv_at hl 0 rfl) ?_
  refine lv_bipush (v := 63) hx hb dJ6_bitCount_0f7a4_49 (by decide) ?_
  refine lv_iand hx hb dJ6_bitCount_0f7a4_51 ?_
  exact kk_ri hx hb hr hlocks hQ h dJ6_bitCount_0f7a4_52
abbrev rm_O_rankOf : Room := { frames := 1, cells := 0, slots := 0, locals := 21 }
theorem nd_O_rankOf : yX2_rankOf.cls ≠ "java/lang/invoke/MethodHandle" ∧ yX2_rankOf.cls ≠ "java/lang/invoke/VarHandle" ∧ (parseMethodDescriptor yX2_rankOf.desc).map (fun d => d.parameters.length) = some 1 := by decide +kernel
set_option maxHeartbeats 4000000 in
set_option maxRecDepth 100000 in
theorem c_O_rankOf (l : Launch) (p0 : Int32) (u : Int32) (h : f_O_rankOf p0 = some u) : Met l yX2_rankOf wsX2_rankOf rm_O_rankOf (kk_PS [.int p0]) (vp_Si (fun r => r = u)) 0 0 (fun _ => False) := by
  refine kk_met (cc := cX2_rankOf) (maxL := 5) (ret := some .int) (by decide) rfl (Nat.le_of_ble_eq_true rfl) ?_
  intro p e s m below meth c hx hb hr hml hts hown hlocks hB ls hl Q hQ
  have hN := hB
  have hown : s.vm.findClass RX2 = some m.cls := hown
  have hl : lv_has ls 5 [(0, .int p0)] := hl
  unfold f_O_rankOf at h
  have L_7 : ∀ (x0 : Int32) (n_7 : Nat) (x1 : Int32) (x2 : Int32) (x3 : Int32) (ls : Array Slot) (hl : lv_has ls 5 [(0, .int x0), (1, .int x1), (2, .int x2), (3, .int x3)]) (h : it3 (bd_O_rankOf_7 x0) n_7 x1 x2 x3 = some u), W p l e rm_O_rankOf s m [.int p0].toArray below meth c s.heap [] 0 0 Q (F0 m 7 ls []) := by
    intro x0 n_7
    induction n_7 with
    | zero => intro x1 x2 x3 ls hl h; exact kk_no h
    | succ n_7 ih_7 =>
      intro x1 x2 x3 ls hl h
      have h : bd_O_rankOf_7 x0 (it3 (bd_O_rankOf_7 x0) n_7) x1 x2 x3 = some u := h
      unfold bd_O_rankOf_7 at h
      refine lv_iload_n hx hb dX2_rankOf_7 rfl (lv_at hl 3 rfl) ?_
      refine lv_bipush (v := 6) hx hb dX2_rankOf_8 (by decide) ?_
      refine lv_icmp_ge (tgt := 52) hx hb dX2_rankOf_10 (by decide) (fun c_10 => ?_) (fun c_10 => ?_)
      · have h := kk_t c_10 h
        refine lv_iload_n hx hb dX2_rankOf_52 rfl (lv_at hl 1 rfl) ?_
        exact kk_ri hx hb hr hlocks hQ h dX2_rankOf_53
      · have h := kk_f c_10 h
        refine lv_iconst (v := 1) hx hb dX2_rankOf_13 (by decide) ?_
        refine lv_iload_n hx hb dX2_rankOf_14 rfl (lv_at hl 0 rfl) ?_
        refine lv_iload_n hx hb dX2_rankOf_15 rfl (lv_at hl 3 rfl) ?_
        obtain ⟨u_16, h_16, h⟩ := kk_b h
        refine kk_si (va_runS (As := [.int x0, .int x3]) (rest := [.int 1]) ⟨hx, hb, hml, hown, hts⟩ (c_O_cupOn l x0 x3 u_16 h_16) (va_cwS 2 hts gX2_rankOf_X2_cupOn rfl rfl rfl nd_O_cupOn ⟨Nat.le_of_ble_eq_true rfl, Nat.le_of_ble_eq_true rfl⟩) (kk_preS hN) rfl rfl hl.1 rfl (lv_room (Nat.le_of_ble_eq_true rfl)) dX2_rankOf_16 ⟨Nat.zero_le _, Nat.zero_le _⟩) ?_
        refine lv_ishl hx hb dX2_rankOf_19 ?_
        refine lv_istore (lv' := [(4, .int ((1 : Int32) <<< (u_16 &&& 31))), (0, .int x0), (1, .int x1), (2, .int x2), (3, .int x3)]) hx hb dX2_rankOf_20 hl (by decide) rfl (fun ls hl => ?_)
        refine lv_iload_n hx hb dX2_rankOf_22 rfl (lv_at hl 2 rfl) ?_
        refine lv_bipush (v := 6) hx hb dX2_rankOf_23 (by decide) ?_
        refine lv_iload_n hx hb dX2_rankOf_25 rfl (lv_at hl 4 rfl) ?_
        refine lv_isub hx hb dX2_rankOf_26 ?_
        refine lv_imul hx hb dX2_rankOf_27 ?_
        refine lv_iload_n hx hb dX2_rankOf_28 rfl (lv_at hl 3 rfl) ?_
        refine lv_iload hx hb dX2_rankOf_29 (lv_at hl 0 rfl) ?_
        refine lv_iconst (v := 1) hx hb dX2_rankOf_31 (by decide) ?_
        refine lv_isub hx hb dX2_rankOf_32 ?_
        refine lv_iand hx hb dX2_rankOf_33 ?_
        obtain ⟨u_34, h_34, h⟩ := kk_b h
        refine kk_si (va_runS (As := [.int (x2 &&& (((1 : Int32) <<< (u_16 &&& 31)) - 1))]) (rest := [.int (x1 * (6 - x3))]) ⟨hx, hb, hml, hown, hts⟩ (c_J_bitCount l (x2 &&& (((1 : Int32) <<< (u_16 &&& 31)) - 1)) u_34 h_34) (va_cwS 1 hts gX2_rankOf_J6_bitCount_0f7a4 rfl rfl rfl nd_J_bitCount ⟨Nat.le_of_ble_eq_true rfl, Nat.le_of_ble_eq_true rfl⟩) (kk_preS hN) rfl rfl hl.1 rfl (lv_room (Nat.le_of_ble_eq_true rfl)) dX2_rankOf_34 ⟨Nat.zero_le _, Nat.zero_le _⟩) ?_
        refine lv_iadd hx hb dX2_rankOf_37 ?_
        refine lv_istore_n (lv' := [(1, .int ((x1 * (6 - x3)) + u_34)), (4, .int ((1 : Int32) <<< (u_16 &&& 31))), (0, .int x0), (2, .int x2), (3, .int x3)]) hx hb dX2_rankOf_38 rfl hl (by decide) rfl (fun ls hl => ?_)
        refine lv_iload_n hx hb dX2_rankOf_39 rfl (lv_at hl 3 rfl) ?_
        refine lv_iload hx hb dX2_rankOf_40 (lv_at hl 1 rfl) ?_
        refine lv_iconst (v := (-1)) hx hb dX2_rankOf_42 (by decide) ?_
        refine lv_ixor hx hb dX2_rankOf_43 ?_
        refine lv_iand hx hb dX2_rankOf_44 ?_
        refine lv_istore_n (lv' := [(2, .int (x2 &&& (((1 : Int32) <<< (u_16 &&& 31)) ^^^ (-1)))), (1, .int ((x1 * (6 - x3)) + u_34)), (4, .int ((1 : Int32) <<< (u_16 &&& 31))), (0, .int x0), (3, .int x3)]) hx hb dX2_rankOf_45 rfl hl (by decide) rfl (fun ls hl => ?_)
        refine lv_iinc (v := x3 + 1) (lv' := [(3, .int (x3 + 1)), (2, .int (x2 &&& (((1 : Int32) <<< (u_16 &&& 31)) ^^^ (-1)))), (1, .int ((x1 * (6 - x3)) + u_34)), (4, .int ((1 : Int32) <<< (u_16 &&& 31))), (0, .int x0)]) hx hb dX2_rankOf_46 hl (k := 4) rfl rfl (by decide) rfl (fun ls hl => ?_)
        refine lv_goto (tgt := 7) hx hb dX2_rankOf_49 (by decide) ?_
        exact ih_7 ((x1 * (6 - x3)) + u_34) (x2 &&& (((1 : Int32) <<< (u_16 &&& 31)) ^^^ (-1))) (x3 + 1) _ (lv_sub hl [4, 2, 1, 0] rfl) h
  refine lv_iconst (v := 0) hx hb dX2_rankOf_0 (by decide) ?_
  refine lv_istore_n (lv' := [(1, .int 0), (0, .int p0)]) hx hb dX2_rankOf_1 rfl hl (by decide) rfl (fun ls hl => ?_)
  refine lv_bipush (v := 63) hx hb dX2_rankOf_2 (by decide) ?_
  refine lv_istore_n (lv' := [(2, .int 63), (1, .int 0), (0, .int p0)]) hx hb dX2_rankOf_4 rfl hl (by decide) rfl (fun ls hl => ?_)
  refine lv_iconst (v := 0) hx hb dX2_rankOf_5 (by decide) ?_
  refine lv_istore_n (lv' := [(3, .int 0), (2, .int 63), (1, .int 0), (0, .int p0)]) hx hb dX2_rankOf_6 rfl hl (by decide) rfl (fun ls hl => ?_)
  exact L_7 p0 _ 0 63 0 _ (lv_sub hl [3, 2, 1, 0] rfl) h
abbrev rm_O_movesBetween : Room := { frames := 1, cells := 0, slots := 0, locals := 22 }
theorem nd_O_movesBetween : yX2_movesBetween.cls ≠ "java/lang/invoke/MethodHandle" ∧ yX2_movesBetween.cls ≠ "java/lang/invoke/VarHandle" ∧ (parseMethodDescriptor yX2_movesBetween.desc).map (fun d => d.parameters.length) = some 2 := by decide +kernel
set_option maxHeartbeats 4000000 in
set_option maxRecDepth 100000 in
theorem c_O_movesBetween (l : Launch) (p0 : Int32) (p1 : Int32) (u : Int32) (h : f_O_movesBetween p0 p1 = some u) : Met l yX2_movesBetween wsX2_movesBetween rm_O_movesBetween (kk_PS [.int p0, .int p1]) (vp_Si (fun r => r = u)) 0 0 (fun _ => False) := by
  refine kk_met (cc := cX2_movesBetween) (maxL := 4) (ret := some .int) (by decide) rfl (Nat.le_of_ble_eq_true rfl) ?_
  intro p e s m below meth c hx hb hr hml hts hown hlocks hB ls hl Q hQ
  have hN := hB
  have hown : s.vm.findClass RX2 = some m.cls := hown
  have hl : lv_has ls 4 [(0, .int p0), (1, .int p1)] := hl
  unfold f_O_movesBetween at h
  have L_4 : ∀ (x0 : Int32) (x1 : Int32) (n_4 : Nat) (x2 : Int32) (x3 : Int32) (ls : Array Slot) (hl : lv_has ls 4 [(0, .int x0), (1, .int x1), (2, .int x2), (3, .int x3)]) (h : it2 (bd_O_movesBetween_4 x0 x1) n_4 x2 x3 = some u), W p l e rm_O_movesBetween s m [.int p0, .int p1].toArray below meth c s.heap [] 0 0 Q (F0 m 4 ls []) := by
    intro x0 x1 n_4
    induction n_4 with
    | zero => intro x2 x3 ls hl h; exact kk_no h
    | succ n_4 ih_4 =>
      intro x2 x3 ls hl h
      have h : bd_O_movesBetween_4 x0 x1 (it2 (bd_O_movesBetween_4 x0 x1) n_4) x2 x3 = some u := h
      unfold bd_O_movesBetween_4 at h
      refine lv_iload_n hx hb dX2_movesBetween_4 rfl (lv_at hl 3 rfl) ?_
      refine lv_bipush (v := 6) hx hb dX2_movesBetween_5 (by decide) ?_
      refine lv_icmp_ge (tgt := 32) hx hb dX2_movesBetween_7 (by decide) (fun c_7 => ?_) (fun c_7 => ?_)
      · have h := kk_t c_7 h
        refine lv_iload_n hx hb dX2_movesBetween_32 rfl (lv_at hl 2 rfl) ?_
        exact kk_ri hx hb hr hlocks hQ h dX2_movesBetween_33
      · have h := kk_f c_7 h
        refine lv_iload_n hx hb dX2_movesBetween_10 rfl (lv_at hl 2 rfl) ?_
        refine lv_iload_n hx hb dX2_movesBetween_11 rfl (lv_at hl 0 rfl) ?_
        refine lv_iload_n hx hb dX2_movesBetween_12 rfl (lv_at hl 1 rfl) ?_
        refine lv_iload_n hx hb dX2_movesBetween_13 rfl (lv_at hl 3 rfl) ?_
        obtain ⟨u_14, h_14, h⟩ := kk_b h
        refine kk_si (va_runS (As := [.int x1, .int x3]) (rest := [.int x0, .int x2]) ⟨hx, hb, hml, hown, hts⟩ (c_O_cupOn l x1 x3 u_14 h_14) (va_cwS 2 hts gX2_movesBetween_X2_cupOn rfl rfl rfl nd_O_cupOn ⟨Nat.le_of_ble_eq_true rfl, Nat.le_of_ble_eq_true rfl⟩) (kk_preS hN) rfl rfl hl.1 rfl (lv_room (Nat.le_of_ble_eq_true rfl)) dX2_movesBetween_14 ⟨Nat.zero_le _, Nat.zero_le _⟩) ?_
        obtain ⟨u_17, h_17, h⟩ := kk_b h
        refine kk_si (va_runS (As := [.int x0, .int u_14]) (rest := [.int x2]) ⟨hx, hb, hml, hown, hts⟩ (c_O_placeOf l x0 u_14 u_17 h_17) (va_cwS 2 hts gX2_movesBetween_X2_placeOf rfl rfl rfl nd_O_placeOf ⟨Nat.le_of_ble_eq_true rfl, Nat.le_of_ble_eq_true rfl⟩) (kk_preS hN) rfl rfl hl.1 rfl (lv_room (Nat.le_of_ble_eq_true rfl)) dX2_movesBetween_17 ⟨Nat.zero_le _, Nat.zero_le _⟩) ?_
        refine lv_iconst (v := 3) hx hb dX2_movesBetween_20 (by decide) ?_
        refine lv_iload_n hx hb dX2_movesBetween_21 rfl (lv_at hl 3 rfl) ?_
        refine lv_imul hx hb dX2_movesBetween_22 ?_
        refine lv_ishl hx hb dX2_movesBetween_23 ?_
        refine lv_ior hx hb dX2_movesBetween_24 ?_
        refine lv_istore_n (lv' := [(2, .int (x2 ||| (u_17 <<< ((3 * x3) &&& 31)))), (0, .int x0), (1, .int x1), (3, .int x3)]) hx hb dX2_movesBetween_25 rfl hl (by decide) rfl (fun ls hl => ?_)
        refine lv_iinc (v := x3 + 1) (lv' := [(3, .int (x3 + 1)), (2, .int (x2 ||| (u_17 <<< ((3 * x3) &&& 31)))), (0, .int x0), (1, .int x1)]) hx hb dX2_movesBetween_26 hl (k := 3) rfl rfl (by decide) rfl (fun ls hl => ?_)
        refine lv_goto (tgt := 4) hx hb dX2_movesBetween_29 (by decide) ?_
        exact ih_4 (x2 ||| (u_17 <<< ((3 * x3) &&& 31))) (x3 + 1) _ (lv_sub hl [2, 3, 1, 0] rfl) h
  refine lv_iconst (v := 0) hx hb dX2_movesBetween_0 (by decide) ?_
  refine lv_istore_n (lv' := [(2, .int 0), (0, .int p0), (1, .int p1)]) hx hb dX2_movesBetween_1 rfl hl (by decide) rfl (fun ls hl => ?_)
  refine lv_iconst (v := 0) hx hb dX2_movesBetween_2 (by decide) ?_
  refine lv_istore_n (lv' := [(3, .int 0), (2, .int 0), (0, .int p0), (1, .int p1)]) hx hb dX2_movesBetween_3 rfl hl (by decide) rfl (fun ls hl => ?_)
  exact L_4 p0 p1 _ 0 0 _ (lv_sub hl [2, 3, 1, 0] rfl) h
abbrev rm_O_cyclesOf : Room := { frames := 1, cells := 0, slots := 0, locals := 21 }
theorem nd_O_cyclesOf : yX2_cyclesOf.cls ≠ "java/lang/invoke/MethodHandle" ∧ yX2_cyclesOf.cls ≠ "java/lang/invoke/VarHandle" ∧ (parseMethodDescriptor yX2_cyclesOf.desc).map (fun d => d.parameters.length) = some 1 := by decide +kernel
set_option maxHeartbeats 4000000 in
set_option maxRecDepth 100000 in
theorem c_O_cyclesOf (l : Launch) (p0 : Int32) (u : Int32) (h : f_O_cyclesOf p0 = some u) : Met l yX2_cyclesOf wsX2_cyclesOf rm_O_cyclesOf (kk_PS [.int p0]) (vp_Si (fun r => r = u)) 0 0 (fun _ => False) := by
  refine kk_met (cc := cX2_cyclesOf) (maxL := 6) (ret := some .int) (by decide) rfl (Nat.le_of_ble_eq_true rfl) ?_
  intro p e s m below meth c hx hb hr hml hts hown hlocks hB ls hl Q hQ
  have hN := hB
  have hown : s.vm.findClass RX2 = some m.cls := hown
  have hl : lv_has ls 6 [(0, .int p0)] := hl
  unfold f_O_cyclesOf at h
  have L_6 : ∀ (x0 : Int32) (n_6 : Nat) (x1 : Int32) (x2 : Int32) (x3 : Int32) (ls : Array Slot) (hl : lv_has ls 6 [(0, .int x0), (1, .int x1), (2, .int x2), (3, .int x3)]) (h : it3 (bd_O_cyclesOf_6 x0) n_6 x1 x2 x3 = some u), W p l e rm_O_cyclesOf s m [.int p0].toArray below meth c s.heap [] 0 0 Q (F0 m 6 ls []) := by
    intro x0 n_6
    induction n_6 with
    | zero => intro x1 x2 x3 ls hl h; exact kk_no h
    | succ n_6 ih_6 =>
      have L_29 : ∀ (x1 : Int32) (x3 : Int32) (n_29 : Nat) (x2 : Int32) (x4 : Int32) (x5 : Int32) (ls : Array Slot) (hl : lv_has ls 6 [(0, .int x0), (1, .int x1), (2, .int x2), (3, .int x3), (4, .int x4), (5, .int x5)]) (h : it3 (bd_O_cyclesOf_29 x0 x1 x3 (it3 (bd_O_cyclesOf_6 x0) n_6)) n_29 x2 x4 x5 = some u), W p l e rm_O_cyclesOf s m [.int p0].toArray below meth c s.heap [] 0 0 Q (F0 m 29 ls []) := by
        intro x1 x3 n_29
        induction n_29 with
        | zero => intro x2 x4 x5 ls hl h; exact kk_no h
        | succ n_29 ih_29 =>
          intro x2 x4 x5 ls hl h
          have h : bd_O_cyclesOf_29 x0 x1 x3 (it3 (bd_O_cyclesOf_6 x0) n_6) (it3 (bd_O_cyclesOf_29 x0 x1 x3 (it3 (bd_O_cyclesOf_6 x0) n_6)) n_29) x2 x4 x5 = some u := h
          unfold bd_O_cyclesOf_29 at h
          refine lv_iload hx hb dX2_cyclesOf_29 (lv_at hl 5 rfl) ?_
          refine lv_bipush (v := 6) hx hb dX2_cyclesOf_31 (by decide) ?_
          refine lv_icmp_ge (tgt := 57) hx hb dX2_cyclesOf_33 (by decide) (fun c_33 => ?_) (fun c_33 => ?_)
          · have h := kk_t c_33 h
            refine lv_iinc (v := x3 + 1) (lv' := [(3, .int (x3 + 1)), (0, .int x0), (1, .int x1), (2, .int x2), (4, .int x4), (5, .int x5)]) hx hb dX2_cyclesOf_57 hl (k := 3) rfl rfl (by decide) rfl (fun ls hl => ?_)
            refine lv_goto (tgt := 6) hx hb dX2_cyclesOf_60 (by decide) ?_
            exact ih_6 x1 x2 (x3 + 1) _ (lv_sub hl [1, 2, 3, 0] rfl) h
          · have h := kk_f c_33 h
            refine lv_iload_n hx hb dX2_cyclesOf_36 rfl (lv_at hl 2 rfl) ?_
            refine lv_iconst (v := 1) hx hb dX2_cyclesOf_37 (by decide) ?_
            refine lv_iload hx hb dX2_cyclesOf_38 (lv_at hl 4 rfl) ?_
            refine lv_ishl hx hb dX2_cyclesOf_40 ?_
            refine lv_ior hx hb dX2_cyclesOf_41 ?_
            refine lv_istore_n (lv' := [(2, .int (x2 ||| ((1 : Int32) <<< (x4 &&& 31)))), (0, .int x0), (1, .int x1), (3, .int x3), (4, .int x4), (5, .int x5)]) hx hb dX2_cyclesOf_42 rfl hl (by decide) rfl (fun ls hl => ?_)
            refine lv_iload_n hx hb dX2_cyclesOf_43 rfl (lv_at hl 1 rfl) ?_
            refine lv_iload hx hb dX2_cyclesOf_44 (lv_at hl 4 rfl) ?_
            obtain ⟨u_46, h_46, h⟩ := kk_b h
            refine kk_si (va_runS (As := [.int x0, .int x4]) (rest := []) ⟨hx, hb, hml, hown, hts⟩ (c_O_cupOn l x0 x4 u_46 h_46) (va_cwS 2 hts gX2_cyclesOf_X2_cupOn rfl rfl rfl nd_O_cupOn ⟨Nat.le_of_ble_eq_true rfl, Nat.le_of_ble_eq_true rfl⟩) (kk_preS hN) rfl rfl hl.1 rfl (lv_room (Nat.le_of_ble_eq_true rfl)) dX2_cyclesOf_46 ⟨Nat.zero_le _, Nat.zero_le _⟩) ?_
            refine lv_istore (lv' := [(4, .int u_46), (2, .int (x2 ||| ((1 : Int32) <<< (x4 &&& 31)))), (0, .int x0), (1, .int x1), (3, .int x3), (5, .int x5)]) hx hb dX2_cyclesOf_49 hl (by decide) rfl (fun ls hl => ?_)
            refine lv_iinc (v := x5 + 1) (lv' := [(5, .int (x5 + 1)), (4, .int u_46), (2, .int (x2 ||| ((1 : Int32) <<< (x4 &&& 31)))), (0, .int x0), (1, .int x1), (3, .int x3)]) hx hb dX2_cyclesOf_51 hl (k := 5) rfl rfl (by decide) rfl (fun ls hl => ?_)
            refine lv_goto (tgt := 29) hx hb dX2_cyclesOf_54 (by decide) ?_
            exact ih_29 (x2 ||| ((1 : Int32) <<< (x4 &&& 31))) u_46 (x5 + 1) _ (lv_sub hl [3, 4, 2, 5, 1, 0] rfl) h
      intro x1 x2 x3 ls hl h
      have h : bd_O_cyclesOf_6 x0 (it3 (bd_O_cyclesOf_6 x0) n_6) x1 x2 x3 = some u := h
      unfold bd_O_cyclesOf_6 at h
      refine lv_iload_n hx hb dX2_cyclesOf_6 rfl (lv_at hl 3 rfl) ?_
      refine lv_bipush (v := 6) hx hb dX2_cyclesOf_7 (by decide) ?_
      refine lv_icmp_ge (tgt := 63) hx hb dX2_cyclesOf_9 (by decide) (fun c_9 => ?_) (fun c_9 => ?_)
      · have h := kk_t c_9 h
        refine lv_iload_n hx hb dX2_cyclesOf_63 rfl (lv_at hl 1 rfl) ?_
        exact kk_ri hx hb hr hlocks hQ h dX2_cyclesOf_64
      · have h := kk_f c_9 h
        refine lv_iload_n hx hb dX2_cyclesOf_12 rfl (lv_at hl 2 rfl) ?_
        refine lv_iload_n hx hb dX2_cyclesOf_13 rfl (lv_at hl 3 rfl) ?_
        refine lv_ishr hx hb dX2_cyclesOf_14 ?_
        refine lv_iconst (v := 1) hx hb dX2_cyclesOf_15 (by decide) ?_
        refine lv_iand hx hb dX2_cyclesOf_16 ?_
        refine lv_if_ne (tgt := 23) hx hb dX2_cyclesOf_17 (by decide) (fun c_17 => ?_) (fun c_17 => ?_)
        · have h := kk_f c_17 h
          refine lv_iload_n hx hb dX2_cyclesOf_23 rfl (lv_at hl 3 rfl) ?_
          refine lv_istore (lv' := [(4, .int x3), (0, .int x0), (1, .int x1), (2, .int x2), (3, .int x3)]) hx hb dX2_cyclesOf_24 hl (by decide) rfl (fun ls hl => ?_)
          refine lv_iconst (v := 0) hx hb dX2_cyclesOf_26 (by decide) ?_
          refine lv_istore (lv' := [(5, .int 0), (4, .int x3), (0, .int x0), (1, .int x1), (2, .int x2), (3, .int x3)]) hx hb dX2_cyclesOf_27 hl (by decide) rfl (fun ls hl => ?_)
          exact L_29 x1 x3 _ x2 x3 0 _ (lv_sub hl [2, 3, 4, 5, 1, 0] rfl) h
        · have h := kk_t c_17 h
          refine lv_iinc (v := x1 + 1) (lv' := [(1, .int (x1 + 1)), (0, .int x0), (2, .int x2), (3, .int x3)]) hx hb dX2_cyclesOf_20 hl (k := 1) rfl rfl (by decide) rfl (fun ls hl => ?_)
          refine lv_iload_n hx hb dX2_cyclesOf_23 rfl (lv_at hl 3 rfl) ?_
          refine lv_istore (lv' := [(4, .int x3), (1, .int (x1 + 1)), (0, .int x0), (2, .int x2), (3, .int x3)]) hx hb dX2_cyclesOf_24 hl (by decide) rfl (fun ls hl => ?_)
          refine lv_iconst (v := 0) hx hb dX2_cyclesOf_26 (by decide) ?_
          refine lv_istore (lv' := [(5, .int 0), (4, .int x3), (1, .int (x1 + 1)), (0, .int x0), (2, .int x2), (3, .int x3)]) hx hb dX2_cyclesOf_27 hl (by decide) rfl (fun ls hl => ?_)
          exact L_29 (x1 + 1) x3 _ x2 x3 0 _ (lv_sub hl [3, 2, 4, 5, 1, 0] rfl) h
  refine lv_iconst (v := 0) hx hb dX2_cyclesOf_0 (by decide) ?_
  refine lv_istore_n (lv' := [(1, .int 0), (0, .int p0)]) hx hb dX2_cyclesOf_1 rfl hl (by decide) rfl (fun ls hl => ?_)
  refine lv_iconst (v := 0) hx hb dX2_cyclesOf_2 (by decide) ?_
  refine lv_istore_n (lv' := [(2, .int 0), (1, .int 0), (0, .int p0)]) hx hb dX2_cyclesOf_3 rfl hl (by decide) rfl (fun ls hl => ?_)
  refine lv_iconst (v := 0) hx hb dX2_cyclesOf_4 (by decide) ?_
  refine lv_istore_n (lv' := [(3, .int 0), (2, .int 0), (1, .int 0), (0, .int p0)]) hx hb dX2_cyclesOf_5 rfl hl (by decide) rfl (fun ls hl => ?_)
  exact L_6 p0 _ 0 0 0 _ (lv_sub hl [3, 2, 1, 0] rfl) h
abbrev rm_O_inversionsOf : Room := { frames := 1, cells := 0, slots := 0, locals := 21 }
theorem nd_O_inversionsOf : yX2_inversionsOf.cls ≠ "java/lang/invoke/MethodHandle" ∧ yX2_inversionsOf.cls ≠ "java/lang/invoke/VarHandle" ∧ (parseMethodDescriptor yX2_inversionsOf.desc).map (fun d => d.parameters.length) = some 1 := by decide +kernel
set_option maxHeartbeats 4000000 in
set_option maxRecDepth 100000 in
theorem c_O_inversionsOf (l : Launch) (p0 : Int32) (u : Int32) (h : f_O_inversionsOf p0 = some u) : Met l yX2_inversionsOf wsX2_inversionsOf rm_O_inversionsOf (kk_PS [.int p0]) (vp_Si (fun r => r = u)) 0 0 (fun _ => False) := by
  refine kk_met (cc := cX2_inversionsOf) (maxL := 4) (ret := some .int) (by decide) rfl (Nat.le_of_ble_eq_true rfl) ?_
  intro p e s m below meth c hx hb hr hml hts hown hlocks hB ls hl Q hQ
  have hN := hB
  have hown : s.vm.findClass RX2 = some m.cls := hown
  have hl : lv_has ls 4 [(0, .int p0)] := hl
  unfold f_O_inversionsOf at h
  have L_4 : ∀ (x0 : Int32) (n_4 : Nat) (x1 : Int32) (x2 : Int32) (ls : Array Slot) (hl : lv_has ls 4 [(0, .int x0), (1, .int x1), (2, .int x2)]) (h : it2 (bd_O_inversionsOf_4 x0) n_4 x1 x2 = some u), W p l e rm_O_inversionsOf s m [.int p0].toArray below meth c s.heap [] 0 0 Q (F0 m 4 ls []) := by
    intro x0 n_4
    induction n_4 with
    | zero => intro x1 x2 ls hl h; exact kk_no h
    | succ n_4 ih_4 =>
      have L_14 : ∀ (x2 : Int32) (n_14 : Nat) (x1 : Int32) (x3 : Int32) (ls : Array Slot) (hl : lv_has ls 4 [(0, .int x0), (1, .int x1), (2, .int x2), (3, .int x3)]) (h : it2 (bd_O_inversionsOf_14 x0 x2 (it2 (bd_O_inversionsOf_4 x0) n_4)) n_14 x1 x3 = some u), W p l e rm_O_inversionsOf s m [.int p0].toArray below meth c s.heap [] 0 0 Q (F0 m 14 ls []) := by
        intro x2 n_14
        induction n_14 with
        | zero => intro x1 x3 ls hl h; exact kk_no h
        | succ n_14 ih_14 =>
          intro x1 x3 ls hl h
          have h : bd_O_inversionsOf_14 x0 x2 (it2 (bd_O_inversionsOf_4 x0) n_4) (it2 (bd_O_inversionsOf_14 x0 x2 (it2 (bd_O_inversionsOf_4 x0) n_4)) n_14) x1 x3 = some u := h
          unfold bd_O_inversionsOf_14 at h
          refine lv_iload_n hx hb dX2_inversionsOf_14 rfl (lv_at hl 3 rfl) ?_
          refine lv_bipush (v := 6) hx hb dX2_inversionsOf_15 (by decide) ?_
          refine lv_icmp_ge (tgt := 42) hx hb dX2_inversionsOf_17 (by decide) (fun c_17 => ?_) (fun c_17 => ?_)
          · have h := kk_t c_17 h
            refine lv_iinc (v := x2 + 1) (lv' := [(2, .int (x2 + 1)), (0, .int x0), (1, .int x1), (3, .int x3)]) hx hb dX2_inversionsOf_42 hl (k := 2) rfl rfl (by decide) rfl (fun ls hl => ?_)
            refine lv_goto (tgt := 4) hx hb dX2_inversionsOf_45 (by decide) ?_
            exact ih_4 x1 (x2 + 1) _ (lv_sub hl [1, 2, 0] rfl) h
          · have h := kk_f c_17 h
            refine lv_iload_n hx hb dX2_inversionsOf_20 rfl (lv_at hl 0 rfl) ?_
            refine lv_iload_n hx hb dX2_inversionsOf_21 rfl (lv_at hl 2 rfl) ?_
            obtain ⟨u_22, h_22, h⟩ := kk_b h
            refine kk_si (va_runS (As := [.int x0, .int x2]) (rest := []) ⟨hx, hb, hml, hown, hts⟩ (c_O_cupOn l x0 x2 u_22 h_22) (va_cwS 2 hts gX2_inversionsOf_X2_cupOn rfl rfl rfl nd_O_cupOn ⟨Nat.le_of_ble_eq_true rfl, Nat.le_of_ble_eq_true rfl⟩) (kk_preS hN) rfl rfl hl.1 rfl (lv_room (Nat.le_of_ble_eq_true rfl)) dX2_inversionsOf_22 ⟨Nat.zero_le _, Nat.zero_le _⟩) ?_
            refine lv_iload_n hx hb dX2_inversionsOf_25 rfl (lv_at hl 0 rfl) ?_
            refine lv_iload_n hx hb dX2_inversionsOf_26 rfl (lv_at hl 3 rfl) ?_
            obtain ⟨u_27, h_27, h⟩ := kk_b h
            refine kk_si (va_runS (As := [.int x0, .int x3]) (rest := [.int u_22]) ⟨hx, hb, hml, hown, hts⟩ (c_O_cupOn l x0 x3 u_27 h_27) (va_cwS 2 hts gX2_inversionsOf_X2_cupOn rfl rfl rfl nd_O_cupOn ⟨Nat.le_of_ble_eq_true rfl, Nat.le_of_ble_eq_true rfl⟩) (kk_preS hN) rfl rfl hl.1 rfl (lv_room (Nat.le_of_ble_eq_true rfl)) dX2_inversionsOf_27 ⟨Nat.zero_le _, Nat.zero_le _⟩) ?_
            refine lv_icmp_le (tgt := 36) hx hb dX2_inversionsOf_30 (by decide) (fun c_30 => ?_) (fun c_30 => ?_)
            · have h := kk_t c_30 h
              refine lv_iinc (v := x3 + 1) (lv' := [(3, .int (x3 + 1)), (0, .int x0), (1, .int x1), (2, .int x2)]) hx hb dX2_inversionsOf_36 hl (k := 3) rfl rfl (by decide) rfl (fun ls hl => ?_)
              refine lv_goto (tgt := 14) hx hb dX2_inversionsOf_39 (by decide) ?_
              exact ih_14 x1 (x3 + 1) _ (lv_sub hl [1, 2, 3, 0] rfl) h
            · have h := kk_f c_30 h
              refine lv_iinc (v := x1 + 1) (lv' := [(1, .int (x1 + 1)), (0, .int x0), (2, .int x2), (3, .int x3)]) hx hb dX2_inversionsOf_33 hl (k := 1) rfl rfl (by decide) rfl (fun ls hl => ?_)
              refine lv_iinc (v := x3 + 1) (lv' := [(3, .int (x3 + 1)), (1, .int (x1 + 1)), (0, .int x0), (2, .int x2)]) hx hb dX2_inversionsOf_36 hl (k := 3) rfl rfl (by decide) rfl (fun ls hl => ?_)
              refine lv_goto (tgt := 14) hx hb dX2_inversionsOf_39 (by decide) ?_
              exact ih_14 (x1 + 1) (x3 + 1) _ (lv_sub hl [2, 1, 3, 0] rfl) h
      intro x1 x2 ls hl h
      have h : bd_O_inversionsOf_4 x0 (it2 (bd_O_inversionsOf_4 x0) n_4) x1 x2 = some u := h
      unfold bd_O_inversionsOf_4 at h
      refine lv_iload_n hx hb dX2_inversionsOf_4 rfl (lv_at hl 2 rfl) ?_
      refine lv_bipush (v := 6) hx hb dX2_inversionsOf_5 (by decide) ?_
      refine lv_icmp_ge (tgt := 48) hx hb dX2_inversionsOf_7 (by decide) (fun c_7 => ?_) (fun c_7 => ?_)
      · have h := kk_t c_7 h
        refine lv_iload_n hx hb dX2_inversionsOf_48 rfl (lv_at hl 1 rfl) ?_
        exact kk_ri hx hb hr hlocks hQ h dX2_inversionsOf_49
      · have h := kk_f c_7 h
        refine lv_iload_n hx hb dX2_inversionsOf_10 rfl (lv_at hl 2 rfl) ?_
        refine lv_iconst (v := 1) hx hb dX2_inversionsOf_11 (by decide) ?_
        refine lv_iadd hx hb dX2_inversionsOf_12 ?_
        refine lv_istore_n (lv' := [(3, .int (x2 + 1)), (0, .int x0), (1, .int x1), (2, .int x2)]) hx hb dX2_inversionsOf_13 rfl hl (by decide) rfl (fun ls hl => ?_)
        exact L_14 x2 _ x1 (x2 + 1) _ (lv_sub hl [1, 2, 3, 0] rfl) h
  refine lv_iconst (v := 0) hx hb dX2_inversionsOf_0 (by decide) ?_
  refine lv_istore_n (lv' := [(1, .int 0), (0, .int p0)]) hx hb dX2_inversionsOf_1 rfl hl (by decide) rfl (fun ls hl => ?_)
  refine lv_iconst (v := 0) hx hb dX2_inversionsOf_2 (by decide) ?_
  refine lv_istore_n (lv' := [(2, .int 0), (1, .int 0), (0, .int p0)]) hx hb dX2_inversionsOf_3 rfl hl (by decide) rfl (fun ls hl => ?_)
  exact L_4 p0 _ 0 0 _ (lv_sub hl [2, 1, 0] rfl) h
abbrev rm_C_commonDivisor : Room := { frames := 0, cells := 0, slots := 0, locals := 0 }
theorem nd_C_commonDivisor : yX9_commonDivisor.cls ≠ "java/lang/invoke/MethodHandle" ∧ yX9_commonDivisor.cls ≠ "java/lang/invoke/VarHandle" ∧ (parseMethodDescriptor yX9_commonDivisor.desc).map (fun d => d.parameters.length) = some 2 := by decide +kernel
set_option maxHeartbeats 4000000 in
set_option maxRecDepth 100000 in
theorem c_C_commonDivisor (l : Launch) (p0 : Int64) (p2 : Int64) (u : Int64) (h : f_C_commonDivisor p0 p2 = some u) : Met l yX9_commonDivisor wsX9_commonDivisor rm_C_commonDivisor (kk_PS [.long p0, .long p2]) (vp_Sl (fun r => r = u)) 0 0 (fun _ => False) := by
  refine kk_met (cc := cX9_commonDivisor) (maxL := 7) (ret := some .long) (by decide) rfl (Nat.le_of_ble_eq_true rfl) ?_
  intro p e s m below meth c hx hb hr hml hts hown hlocks hB ls hl Q hQ
  have hN := hB
  have hown : s.vm.findClass RX9 = some m.cls := hown
  have hl : lv_has ls 7 [(0, .long p0), (2, .long p2)] := hl
  unfold f_C_commonDivisor at h
  have L_3 : ∀ (n_3 : Nat) (x0 : Int64) (x2 : Int64) (x4 : Int32) (ls : Array Slot) (hl : lv_has ls 7 [(0, .long x0), (2, .long x2), (4, .int x4)]) (h : it3 (bd_C_commonDivisor_3) n_3 x0 x2 x4 = some u), W p l e rm_C_commonDivisor s m [.long p0, .long p2].toArray below meth c s.heap [] 0 0 Q (F0 m 3 ls []) := by
    intro n_3
    induction n_3 with
    | zero => intro x0 x2 x4 ls hl h; exact kk_no h
    | succ n_3 ih_3 =>
      intro x0 x2 x4 ls hl h
      have h : bd_C_commonDivisor_3 (it3 (bd_C_commonDivisor_3) n_3) x0 x2 x4 = some u := h
      unfold bd_C_commonDivisor_3 at h
      refine lv_iload hx hb dX9_commonDivisor_3 (lv_at hl 2 rfl) ?_
      refine lv_sipush (v := 200) hx hb dX9_commonDivisor_5 (by decide) ?_
      refine lv_icmp_ge (tgt := 33) hx hb dX9_commonDivisor_8 (by decide) (fun c_8 => ?_) (fun c_8 => ?_)
      · have h := kk_t c_8 h
        refine lv_lload_n hx hb dX9_commonDivisor_33 rfl (lv_at hl 0 rfl) ?_
        exact kk_rl hx hb hr hlocks hQ h dX9_commonDivisor_34
      · have h := kk_f c_8 h
        refine lv_lload_n hx hb dX9_commonDivisor_11 rfl (lv_at hl 1 rfl) ?_
        refine lv_lconst (v := 0) hx hb dX9_commonDivisor_12 (by decide) ?_
        refine W.lcmp hx hb dX9_commonDivisor_13 ?_
        refine lv_if_eq (tgt := 33) hx hb dX9_commonDivisor_14 (by decide) (fun c_14 => ?_) (fun c_14 => ?_)
        · have h := kk_t c_14 h
          refine lv_lload_n hx hb dX9_commonDivisor_33 rfl (lv_at hl 0 rfl) ?_
          exact kk_rl hx hb hr hlocks hQ h dX9_commonDivisor_34
        · have h := kk_f c_14 h
          refine lv_lload_n hx hb dX9_commonDivisor_17 rfl (lv_at hl 0 rfl) ?_
          refine lv_lload_n hx hb dX9_commonDivisor_18 rfl (lv_at hl 1 rfl) ?_
          obtain ⟨z_19, h⟩ := kk_zl h
          refine lv_lrem hx hb dX9_commonDivisor_19 z_19 ?_
          refine lv_lstore (lv' := [(5, .long (x0 - x0 / x2 * x2)), (0, .long x0), (2, .long x2), (4, .int x4)]) hx hb dX9_commonDivisor_20 hl (by decide) rfl (fun ls hl => ?_)
          refine lv_lload_n hx hb dX9_commonDivisor_22 rfl (lv_at hl 2 rfl) ?_
          refine lv_lstore_n (lv' := [(0, .long x2), (5, .long (x0 - x0 / x2 * x2)), (2, .long x2), (4, .int x4)]) hx hb dX9_commonDivisor_23 rfl hl (by decide) rfl (fun ls hl => ?_)
          refine lv_lload hx hb dX9_commonDivisor_24 (lv_at hl 1 rfl) ?_
          refine lv_lstore_n (lv' := [(2, .long (x0 - x0 / x2 * x2)), (0, .long x2), (5, .long (x0 - x0 / x2 * x2)), (4, .int x4)]) hx hb dX9_commonDivisor_26 rfl hl (by decide) rfl (fun ls hl => ?_)
          refine lv_iinc (v := x4 + 1) (lv' := [(4, .int (x4 + 1)), (2, .long (x0 - x0 / x2 * x2)), (0, .long x2), (5, .long (x0 - x0 / x2 * x2))]) hx hb dX9_commonDivisor_27 hl (k := 3) rfl rfl (by decide) rfl (fun ls hl => ?_)
          refine lv_goto (tgt := 3) hx hb dX9_commonDivisor_30 (by decide) ?_
          exact ih_3 x2 (x0 - x0 / x2 * x2) (x4 + 1) _ (lv_sub hl [2, 1, 0] rfl) h
  refine lv_iconst (v := 0) hx hb dX9_commonDivisor_0 (by decide) ?_
  refine lv_istore (lv' := [(4, .int 0), (0, .long p0), (2, .long p2)]) hx hb dX9_commonDivisor_1 hl (by decide) rfl (fun ls hl => ?_)
  exact L_3 _ p0 p2 0 _ (lv_sub hl [1, 2, 0] rfl) h
abbrev rm_C_isPlace : Room := { frames := 0, cells := 0, slots := 0, locals := 0 }
theorem nd_C_isPlace : yX9_isPlace.cls ≠ "java/lang/invoke/MethodHandle" ∧ yX9_isPlace.cls ≠ "java/lang/invoke/VarHandle" ∧ (parseMethodDescriptor yX9_isPlace.desc).map (fun d => d.parameters.length) = some 1 := by decide +kernel
set_option maxHeartbeats 4000000 in
set_option maxRecDepth 100000 in
theorem c_C_isPlace (l : Launch) (p0 : Int32) (u : Int32) (h : f_C_isPlace p0 = some u) : Met l yX9_isPlace wsX9_isPlace rm_C_isPlace (kk_PS [.int p0]) (vp_Si (fun r => r = u)) 0 0 (fun _ => False) := by
  refine kk_met (cc := cX9_isPlace) (maxL := 1) (ret := some .boolean) (by decide) rfl (Nat.le_of_ble_eq_true rfl) ?_
  intro p e s m below meth c hx hb hr hml hts hown hlocks hB ls hl Q hQ
  have hN := hB
  have hown : s.vm.findClass RX9 = some m.cls := hown
  have hl : lv_has ls 1 [(0, .int p0)] := hl
  unfold f_C_isPlace at h
  refine lv_iload_n hx hb dX9_isPlace_0 rfl (lv_at hl 0 rfl) ?_
  refine lv_if_lt (tgt := 14) hx hb dX9_isPlace_1 (by decide) (fun c_1 => ?_) (fun c_1 => ?_)
  · have h := kk_t c_1 h
    refine lv_iconst (v := 0) hx hb dX9_isPlace_14 (by decide) ?_
    exact kk_rz hx hb hr hlocks hQ rfl h dX9_isPlace_15
  · have h := kk_f c_1 h
    refine lv_iload_n hx hb dX9_isPlace_4 rfl (lv_at hl 0 rfl) ?_
    refine lv_bipush (v := 6) hx hb dX9_isPlace_5 (by decide) ?_
    refine lv_icmp_ge (tgt := 14) hx hb dX9_isPlace_7 (by decide) (fun c_7 => ?_) (fun c_7 => ?_)
    · have h := kk_t c_7 h
      refine lv_iconst (v := 0) hx hb dX9_isPlace_14 (by decide) ?_
      exact kk_rz hx hb hr hlocks hQ rfl h dX9_isPlace_15
    · have h := kk_f c_7 h
      refine lv_iconst (v := 1) hx hb dX9_isPlace_10 (by decide) ?_
      refine lv_goto (tgt := 15) hx hb dX9_isPlace_11 (by decide) ?_
      exact kk_rz hx hb hr hlocks hQ rfl h dX9_isPlace_15
abbrev rm_O_toRow : Room := { frames := 1, cells := 0, slots := 0, locals := 21 }
theorem nd_O_toRow : yX2_toRow.cls ≠ "java/lang/invoke/MethodHandle" ∧ yX2_toRow.cls ≠ "java/lang/invoke/VarHandle" ∧ (parseMethodDescriptor yX2_toRow.desc).map (fun d => d.parameters.length) = some 1 := by decide +kernel
set_option maxHeartbeats 4000000 in
set_option maxRecDepth 100000 in
theorem c_O_toRow (l : Launch) (p0 : Int32) (u : Int32) (h : f_O_toRow p0 = some u) : Met l yX2_toRow wsX2_toRow rm_O_toRow (kk_PS [.int p0]) (vp_Si (fun r => r = u)) 0 0 (fun _ => False) := by
  refine kk_met (cc := cX2_toRow) (maxL := 3) (ret := some .int) (by decide) rfl (Nat.le_of_ble_eq_true rfl) ?_
  intro p e s m below meth c hx hb hr hml hts hown hlocks hB ls hl Q hQ
  have hN := hB
  have hown : s.vm.findClass RX2 = some m.cls := hown
  have hl : lv_has ls 3 [(0, .int p0)] := hl
  unfold f_O_toRow at h
  have L_4 : ∀ (x0 : Int32) (n_4 : Nat) (x1 : Int32) (x2 : Int32) (ls : Array Slot) (hl : lv_has ls 3 [(0, .int x0), (1, .int x1), (2, .int x2)]) (h : it2 (bd_O_toRow_4 x0) n_4 x1 x2 = some u), W p l e rm_O_toRow s m [.int p0].toArray below meth c s.heap [] 0 0 Q (F0 m 4 ls []) := by
    intro x0 n_4
    induction n_4 with
    | zero => intro x1 x2 ls hl h; exact kk_no h
    | succ n_4 ih_4 =>
      intro x1 x2 ls hl h
      have h : bd_O_toRow_4 x0 (it2 (bd_O_toRow_4 x0) n_4) x1 x2 = some u := h
      unfold bd_O_toRow_4 at h
      refine lv_iload_n hx hb dX2_toRow_4 rfl (lv_at hl 2 rfl) ?_
      refine lv_bipush (v := 6) hx hb dX2_toRow_5 (by decide) ?_
      refine lv_icmp_ge (tgt := 27) hx hb dX2_toRow_7 (by decide) (fun c_7 => ?_) (fun c_7 => ?_)
      · have h := kk_t c_7 h
        refine lv_iload_n hx hb dX2_toRow_27 rfl (lv_at hl 1 rfl) ?_
        exact kk_ri hx hb hr hlocks hQ h dX2_toRow_28
      · have h := kk_f c_7 h
        refine lv_bipush (v := 10) hx hb dX2_toRow_10 (by decide) ?_
        refine lv_iload_n hx hb dX2_toRow_12 rfl (lv_at hl 1 rfl) ?_
        refine lv_imul hx hb dX2_toRow_13 ?_
        refine lv_iload_n hx hb dX2_toRow_14 rfl (lv_at hl 0 rfl) ?_
        refine lv_iload_n hx hb dX2_toRow_15 rfl (lv_at hl 2 rfl) ?_
        obtain ⟨u_16, h_16, h⟩ := kk_b h
        refine kk_si (va_runS (As := [.int x0, .int x2]) (rest := [.int (10 * x1)]) ⟨hx, hb, hml, hown, hts⟩ (c_O_cupOn l x0 x2 u_16 h_16) (va_cwS 2 hts gX2_toRow_X2_cupOn rfl rfl rfl nd_O_cupOn ⟨Nat.le_of_ble_eq_true rfl, Nat.le_of_ble_eq_true rfl⟩) (kk_preS hN) rfl rfl hl.1 rfl (lv_room (Nat.le_of_ble_eq_true rfl)) dX2_toRow_16 ⟨Nat.zero_le _, Nat.zero_le _⟩) ?_
        refine lv_iadd hx hb dX2_toRow_19 ?_
        refine lv_istore_n (lv' := [(1, .int ((10 * x1) + u_16)), (0, .int x0), (2, .int x2)]) hx hb dX2_toRow_20 rfl hl (by decide) rfl (fun ls hl => ?_)
        refine lv_iinc (v := x2 + 1) (lv' := [(2, .int (x2 + 1)), (1, .int ((10 * x1) + u_16)), (0, .int x0)]) hx hb dX2_toRow_21 hl (k := 2) rfl rfl (by decide) rfl (fun ls hl => ?_)
        refine lv_goto (tgt := 4) hx hb dX2_toRow_24 (by decide) ?_
        exact ih_4 ((10 * x1) + u_16) (x2 + 1) _ (lv_sub hl [2, 1, 0] rfl) h
  refine lv_iconst (v := 0) hx hb dX2_toRow_0 (by decide) ?_
  refine lv_istore_n (lv' := [(1, .int 0), (0, .int p0)]) hx hb dX2_toRow_1 rfl hl (by decide) rfl (fun ls hl => ?_)
  refine lv_iconst (v := 0) hx hb dX2_toRow_2 (by decide) ?_
  refine lv_istore_n (lv' := [(2, .int 0), (1, .int 0), (0, .int p0)]) hx hb dX2_toRow_3 rfl hl (by decide) rfl (fun ls hl => ?_)
  exact L_4 p0 _ 0 0 _ (lv_sub hl [2, 1, 0] rfl) h
abbrev rm_C_power : Room := { frames := 0, cells := 0, slots := 0, locals := 0 }
theorem nd_C_power : yX9_power.cls ≠ "java/lang/invoke/MethodHandle" ∧ yX9_power.cls ≠ "java/lang/invoke/VarHandle" ∧ (parseMethodDescriptor yX9_power.desc).map (fun d => d.parameters.length) = some 2 := by decide +kernel
set_option maxHeartbeats 4000000 in
set_option maxRecDepth 100000 in
theorem c_C_power (l : Launch) (p0 : Int64) (p2 : Int32) (u : Int64) (h : f_C_power p0 p2 = some u) : Met l yX9_power wsX9_power rm_C_power (kk_PS [.long p0, .int p2]) (vp_Sl (fun r => r = u)) 0 0 (fun _ => False) := by
  refine kk_met (cc := cX9_power) (maxL := 6) (ret := some .long) (by decide) rfl (Nat.le_of_ble_eq_true rfl) ?_
  intro p e s m below meth c hx hb hr hml hts hown hlocks hB ls hl Q hQ
  have hN := hB
  have hown : s.vm.findClass RX9 = some m.cls := hown
  have hl : lv_has ls 6 [(0, .long p0), (2, .int p2)] := hl
  unfold f_C_power at h
  have L_5 : ∀ (x0 : Int64) (x2 : Int32) (n_5 : Nat) (x3 : Int64) (x5 : Int32) (ls : Array Slot) (hl : lv_has ls 6 [(0, .long x0), (2, .int x2), (3, .long x3), (5, .int x5)]) (h : it2 (bd_C_power_5 x0 x2) n_5 x3 x5 = some u), W p l e rm_C_power s m [.long p0, .int p2].toArray below meth c s.heap [] 0 0 Q (F0 m 5 ls []) := by
    intro x0 x2 n_5
    induction n_5 with
    | zero => intro x3 x5 ls hl h; exact kk_no h
    | succ n_5 ih_5 =>
      intro x3 x5 ls hl h
      have h : bd_C_power_5 x0 x2 (it2 (bd_C_power_5 x0 x2) n_5) x3 x5 = some u := h
      unfold bd_C_power_5 at h
      refine lv_iload hx hb dX9_power_5 (lv_at hl 3 rfl) ?_
      refine lv_iload_n hx hb dX9_power_7 rfl (lv_at hl 1 rfl) ?_
      refine lv_icmp_ge (tgt := 21) hx hb dX9_power_8 (by decide) (fun c_8 => ?_) (fun c_8 => ?_)
      · have h := kk_t c_8 h
        refine lv_lload_n hx hb dX9_power_21 rfl (lv_at hl 2 rfl) ?_
        exact kk_rl hx hb hr hlocks hQ h dX9_power_22
      · have h := kk_f c_8 h
        refine lv_lload_n hx hb dX9_power_11 rfl (lv_at hl 2 rfl) ?_
        refine lv_lload_n hx hb dX9_power_12 rfl (lv_at hl 0 rfl) ?_
        refine lv_lmul hx hb dX9_power_13 ?_
        refine lv_lstore_n (lv' := [(3, .long (x3 * x0)), (0, .long x0), (2, .int x2), (5, .int x5)]) hx hb dX9_power_14 rfl hl (by decide) rfl (fun ls hl => ?_)
        refine lv_iinc (v := x5 + 1) (lv' := [(5, .int (x5 + 1)), (3, .long (x3 * x0)), (0, .long x0), (2, .int x2)]) hx hb dX9_power_15 hl (k := 3) rfl rfl (by decide) rfl (fun ls hl => ?_)
        refine lv_goto (tgt := 5) hx hb dX9_power_18 (by decide) ?_
        exact ih_5 (x3 * x0) (x5 + 1) _ (lv_sub hl [2, 3, 1, 0] rfl) h
  refine lv_lconst (v := 1) hx hb dX9_power_0 (by decide) ?_
  refine lv_lstore_n (lv' := [(3, .long 1), (0, .long p0), (2, .int p2)]) hx hb dX9_power_1 rfl hl (by decide) rfl (fun ls hl => ?_)
  refine lv_iconst (v := 0) hx hb dX9_power_2 (by decide) ?_
  refine lv_istore (lv' := [(5, .int 0), (3, .long 1), (0, .long p0), (2, .int p2)]) hx hb dX9_power_3 hl (by decide) rfl (fun ls hl => ?_)
  exact L_5 p0 p2 _ 1 0 _ (lv_sub hl [2, 3, 1, 0] rfl) h
abbrev rm_C_waysTo : Room := { frames := 0, cells := 0, slots := 0, locals := 0 }
theorem nd_C_waysTo : yX9_waysTo.cls ≠ "java/lang/invoke/MethodHandle" ∧ yX9_waysTo.cls ≠ "java/lang/invoke/VarHandle" ∧ (parseMethodDescriptor yX9_waysTo.desc).map (fun d => d.parameters.length) = some 2 := by decide +kernel
set_option maxHeartbeats 4000000 in
set_option maxRecDepth 100000 in
theorem c_C_waysTo (l : Launch) (p0 : Int32) (p1 : Int32) (u : Int64) (h : f_C_waysTo p0 p1 = some u) : Met l yX9_waysTo wsX9_waysTo rm_C_waysTo (kk_PS [.int p0, .int p1]) (vp_Sl (fun r => r = u)) 0 0 (fun _ => False) := by
  refine kk_met (cc := cX9_waysTo) (maxL := 9) (ret := some .long) (by decide) rfl (Nat.le_of_ble_eq_true rfl) ?_
  intro p e s m below meth c hx hb hr hml hts hown hlocks hB ls hl Q hQ
  have hN := hB
  have hown : s.vm.findClass RX9 = some m.cls := hown
  have hl : lv_has ls 9 [(0, .int p0), (1, .int p1)] := hl
  unfold f_C_waysTo at h
  have L_8 : ∀ (x0 : Int32) (x1 : Int32) (n_8 : Nat) (x2 : Int64) (x4 : Int64) (x6 : Int32) (ls : Array Slot) (hl : lv_has ls 9 [(0, .int x0), (1, .int x1), (2, .long x2), (4, .long x4), (6, .int x6)]) (h : it3 (bd_C_waysTo_8 x0 x1) n_8 x2 x4 x6 = some u), W p l e rm_C_waysTo s m [.int p0, .int p1].toArray below meth c s.heap [] 0 0 Q (F0 m 8 ls []) := by
    intro x0 x1 n_8
    induction n_8 with
    | zero => intro x2 x4 x6 ls hl h; exact kk_no h
    | succ n_8 ih_8 =>
      intro x2 x4 x6 ls hl h
      have h : bd_C_waysTo_8 x0 x1 (it3 (bd_C_waysTo_8 x0 x1) n_8) x2 x4 x6 = some u := h
      unfold bd_C_waysTo_8 at h
      refine lv_iload hx hb dX9_waysTo_8 (lv_at hl 4 rfl) ?_
      refine lv_iload_n hx hb dX9_waysTo_10 rfl (lv_at hl 1 rfl) ?_
      refine lv_icmp_ge (tgt := 47) hx hb dX9_waysTo_11 (by decide) (fun c_11 => ?_) (fun c_11 => ?_)
      · have h := kk_t c_11 h
        refine lv_iload_n hx hb dX9_waysTo_47 rfl (lv_at hl 0 rfl) ?_
        refine lv_if_ne (tgt := 55) hx hb dX9_waysTo_48 (by decide) (fun c_48 => ?_) (fun c_48 => ?_)
        · have h := kk_f c_48 h
          refine lv_lload hx hb dX9_waysTo_55 (lv_at hl 3 rfl) ?_
          exact kk_rl hx hb hr hlocks hQ h dX9_waysTo_57
        · have h := kk_t c_48 h
          refine lv_lload_n hx hb dX9_waysTo_51 rfl (lv_at hl 2 rfl) ?_
          refine lv_goto (tgt := 57) hx hb dX9_waysTo_52 (by decide) ?_
          exact kk_rl hx hb hr hlocks hQ h dX9_waysTo_57
      · have h := kk_f c_11 h
        refine lv_ldc2 hx hb hown (hts (.constantLong RX9 194 (10)) (List.mem_of_getElem? (i := 1) rfl)) dX9_waysTo_14 ?_
        refine lv_lload_n hx hb dX9_waysTo_17 rfl (lv_at hl 2 rfl) ?_
        refine lv_lmul hx hb dX9_waysTo_18 ?_
        refine lv_ldc2 hx hb hown (hts (.constantLong RX9 233 (5)) (List.mem_of_getElem? (i := 2) rfl)) dX9_waysTo_19 ?_
        refine lv_lload hx hb dX9_waysTo_22 (lv_at hl 3 rfl) ?_
        refine lv_lmul hx hb dX9_waysTo_24 ?_
        refine lv_ladd hx hb dX9_waysTo_25 ?_
        refine lv_lstore (lv' := [(7, .long ((10 * x2) + (5 * x4))), (0, .int x0), (1, .int x1), (2, .long x2), (4, .long x4), (6, .int x6)]) hx hb dX9_waysTo_26 hl (by decide) rfl (fun ls hl => ?_)
        refine lv_lload_n hx hb dX9_waysTo_28 rfl (lv_at hl 3 rfl) ?_
        refine lv_ldc2 hx hb hown (hts (.constantLong RX9 235 (14)) (List.mem_of_getElem? (i := 3) rfl)) dX9_waysTo_29 ?_
        refine lv_lload hx hb dX9_waysTo_32 (lv_at hl 4 rfl) ?_
        refine lv_lmul hx hb dX9_waysTo_34 ?_
        refine lv_ladd hx hb dX9_waysTo_35 ?_
        refine lv_lstore (lv' := [(4, .long (x2 + (14 * x4))), (7, .long ((10 * x2) + (5 * x4))), (0, .int x0), (1, .int x1), (2, .long x2), (6, .int x6)]) hx hb dX9_waysTo_36 hl (by decide) rfl (fun ls hl => ?_)
        refine lv_lload hx hb dX9_waysTo_38 (lv_at hl 1 rfl) ?_
        refine lv_lstore_n (lv' := [(2, .long ((10 * x2) + (5 * x4))), (4, .long (x2 + (14 * x4))), (7, .long ((10 * x2) + (5 * x4))), (0, .int x0), (1, .int x1), (6, .int x6)]) hx hb dX9_waysTo_40 rfl hl (by decide) rfl (fun ls hl => ?_)
        refine lv_iinc (v := x6 + 1) (lv' := [(6, .int (x6 + 1)), (2, .long ((10 * x2) + (5 * x4))), (4, .long (x2 + (14 * x4))), (7, .long ((10 * x2) + (5 * x4))), (0, .int x0), (1, .int x1)]) hx hb dX9_waysTo_41 hl (k := 5) rfl rfl (by decide) rfl (fun ls hl => ?_)
        refine lv_goto (tgt := 8) hx hb dX9_waysTo_44 (by decide) ?_
        exact ih_8 ((10 * x2) + (5 * x4)) (x2 + (14 * x4)) (x6 + 1) _ (lv_sub hl [4, 5, 1, 2, 0] rfl) h
  refine lv_lconst (v := 1) hx hb dX9_waysTo_0 (by decide) ?_
  refine lv_lstore_n (lv' := [(2, .long 1), (0, .int p0), (1, .int p1)]) hx hb dX9_waysTo_1 rfl hl (by decide) rfl (fun ls hl => ?_)
  refine lv_lconst (v := 0) hx hb dX9_waysTo_2 (by decide) ?_
  refine lv_lstore (lv' := [(4, .long 0), (2, .long 1), (0, .int p0), (1, .int p1)]) hx hb dX9_waysTo_3 hl (by decide) rfl (fun ls hl => ?_)
  refine lv_iconst (v := 0) hx hb dX9_waysTo_5 (by decide) ?_
  refine lv_istore (lv' := [(6, .int 0), (4, .long 0), (2, .long 1), (0, .int p0), (1, .int p1)]) hx hb dX9_waysTo_6 hl (by decide) rfl (fun ls hl => ?_)
  exact L_8 p0 p1 _ 1 0 0 _ (lv_sub hl [3, 4, 2, 1, 0] rfl) h
abbrev rm_O_lesserCupsLeft : Room := { frames := 0, cells := 0, slots := 0, locals := 0 }
theorem nd_O_lesserCupsLeft : yX2_lesserCupsLeft.cls ≠ "java/lang/invoke/MethodHandle" ∧ yX2_lesserCupsLeft.cls ≠ "java/lang/invoke/VarHandle" ∧ (parseMethodDescriptor yX2_lesserCupsLeft.desc).map (fun d => d.parameters.length) = some 1 := by decide +kernel
set_option maxHeartbeats 4000000 in
set_option maxRecDepth 100000 in
theorem c_O_lesserCupsLeft (l : Launch) (p0 : Int32) (u : Int32) (h : f_O_lesserCupsLeft p0 = some u) : Met l yX2_lesserCupsLeft wsX2_lesserCupsLeft rm_O_lesserCupsLeft (kk_PS [.int p0]) (vp_Si (fun r => r = u)) 0 0 (fun _ => False) := by
  refine kk_met (cc := cX2_lesserCupsLeft) (maxL := 5) (ret := some .int) (by decide) rfl (Nat.le_of_ble_eq_true rfl) ?_
  intro p e s m below meth c hx hb hr hml hts hown hlocks hB ls hl Q hQ
  have hN := hB
  have hown : s.vm.findClass RX2 = some m.cls := hown
  have hl : lv_has ls 5 [(0, .int p0)] := hl
  unfold f_O_lesserCupsLeft at h
  have L_6 : ∀ (n_6 : Nat) (x1 : Int32) (x2 : Int32) (x3 : Int32) (ls : Array Slot) (hl : lv_has ls 5 [(1, .int x1), (2, .int x2), (3, .int x3)]) (h : it3 (bd_O_lesserCupsLeft_6) n_6 x1 x2 x3 = some u), W p l e rm_O_lesserCupsLeft s m [.int p0].toArray below meth c s.heap [] 0 0 Q (F0 m 6 ls []) := by
    intro n_6
    induction n_6 with
    | zero => intro x1 x2 x3 ls hl h; exact kk_no h
    | succ n_6 ih_6 =>
      intro x1 x2 x3 ls hl h
      have h : bd_O_lesserCupsLeft_6 (it3 (bd_O_lesserCupsLeft_6) n_6) x1 x2 x3 = some u := h
      unfold bd_O_lesserCupsLeft_6 at h
      refine lv_iload_n hx hb dX2_lesserCupsLeft_6 rfl (lv_at hl 2 rfl) ?_
      refine lv_if_lt (tgt := 38) hx hb dX2_lesserCupsLeft_7 (by decide) (fun c_7 => ?_) (fun c_7 => ?_)
      · have h := kk_t c_7 h
        refine lv_iload_n hx hb dX2_lesserCupsLeft_38 rfl (lv_at hl 0 rfl) ?_
        exact kk_ri hx hb hr hlocks hQ h dX2_lesserCupsLeft_39
      · have h := kk_f c_7 h
        refine lv_bipush (v := 6) hx hb dX2_lesserCupsLeft_10 (by decide) ?_
        refine lv_iload_n hx hb dX2_lesserCupsLeft_12 rfl (lv_at hl 2 rfl) ?_
        refine lv_isub hx hb dX2_lesserCupsLeft_13 ?_
        refine lv_istore (lv' := [(4, .int (6 - x3)), (1, .int x1), (2, .int x2), (3, .int x3)]) hx hb dX2_lesserCupsLeft_14 hl (by decide) rfl (fun ls hl => ?_)
        refine lv_iload_n hx hb dX2_lesserCupsLeft_16 rfl (lv_at hl 1 rfl) ?_
        refine lv_iload_n hx hb dX2_lesserCupsLeft_17 rfl (lv_at hl 2 rfl) ?_
        refine lv_iload hx hb dX2_lesserCupsLeft_18 (lv_at hl 0 rfl) ?_
        obtain ⟨z_20, h⟩ := kk_z h
        refine lv_irem hx hb dX2_lesserCupsLeft_20 z_20 ?_
        refine lv_iconst (v := 3) hx hb dX2_lesserCupsLeft_21 (by decide) ?_
        refine lv_iload_n hx hb dX2_lesserCupsLeft_22 rfl (lv_at hl 3 rfl) ?_
        refine lv_imul hx hb dX2_lesserCupsLeft_23 ?_
        refine lv_ishl hx hb dX2_lesserCupsLeft_24 ?_
        refine lv_ior hx hb dX2_lesserCupsLeft_25 ?_
        refine lv_istore_n (lv' := [(1, .int (x1 ||| ((x2 - x2 / (6 - x3) * (6 - x3)) <<< ((3 * x3) &&& 31)))), (4, .int (6 - x3)), (2, .int x2), (3, .int x3)]) hx hb dX2_lesserCupsLeft_26 rfl hl (by decide) rfl (fun ls hl => ?_)
        refine lv_iload_n hx hb dX2_lesserCupsLeft_27 rfl (lv_at hl 2 rfl) ?_
        refine lv_iload hx hb dX2_lesserCupsLeft_28 (lv_at hl 1 rfl) ?_
        obtain ⟨z_30, h⟩ := kk_z h
        refine lv_idiv hx hb dX2_lesserCupsLeft_30 z_30 ?_
        refine lv_istore_n (lv' := [(2, .int (x2 / (6 - x3))), (1, .int (x1 ||| ((x2 - x2 / (6 - x3) * (6 - x3)) <<< ((3 * x3) &&& 31)))), (4, .int (6 - x3)), (3, .int x3)]) hx hb dX2_lesserCupsLeft_31 rfl hl (by decide) rfl (fun ls hl => ?_)
        refine lv_iinc (v := x3 + (-1)) (lv' := [(3, .int (x3 + (-1))), (2, .int (x2 / (6 - x3))), (1, .int (x1 ||| ((x2 - x2 / (6 - x3) * (6 - x3)) <<< ((3 * x3) &&& 31)))), (4, .int (6 - x3))]) hx hb dX2_lesserCupsLeft_32 hl (k := 3) rfl rfl (by decide) rfl (fun ls hl => ?_)
        refine lv_goto (tgt := 6) hx hb dX2_lesserCupsLeft_35 (by decide) ?_
        exact ih_6 (x1 ||| ((x2 - x2 / (6 - x3) * (6 - x3)) <<< ((3 * x3) &&& 31))) (x2 / (6 - x3)) (x3 + (-1)) _ (lv_sub hl [2, 1, 0] rfl) h
  refine lv_iconst (v := 0) hx hb dX2_lesserCupsLeft_0 (by decide) ?_
  refine lv_istore_n (lv' := [(1, .int 0), (0, .int p0)]) hx hb dX2_lesserCupsLeft_1 rfl hl (by decide) rfl (fun ls hl => ?_)
  refine lv_iload_n hx hb dX2_lesserCupsLeft_2 rfl (lv_at hl 1 rfl) ?_
  refine lv_istore_n (lv' := [(2, .int p0), (1, .int 0), (0, .int p0)]) hx hb dX2_lesserCupsLeft_3 rfl hl (by decide) rfl (fun ls hl => ?_)
  refine lv_iconst (v := 5) hx hb dX2_lesserCupsLeft_4 (by decide) ?_
  refine lv_istore_n (lv' := [(3, .int 5), (2, .int p0), (1, .int 0), (0, .int p0)]) hx hb dX2_lesserCupsLeft_5 rfl hl (by decide) rfl (fun ls hl => ?_)
  exact L_6 _ 0 p0 5 _ (lv_sub hl [2, 1, 0] rfl) h
abbrev rm_O_nthCup : Room := { frames := 0, cells := 0, slots := 0, locals := 0 }
theorem nd_O_nthCup : yX2_nthCup.cls ≠ "java/lang/invoke/MethodHandle" ∧ yX2_nthCup.cls ≠ "java/lang/invoke/VarHandle" ∧ (parseMethodDescriptor yX2_nthCup.desc).map (fun d => d.parameters.length) = some 2 := by decide +kernel
set_option maxHeartbeats 4000000 in
set_option maxRecDepth 100000 in
theorem c_O_nthCup (l : Launch) (p0 : Int32) (p1 : Int32) (u : Int32) (h : f_O_nthCup p0 p1 = some u) : Met l yX2_nthCup wsX2_nthCup rm_O_nthCup (kk_PS [.int p0, .int p1]) (vp_Si (fun r => r = u)) 0 0 (fun _ => False) := by
  refine kk_met (cc := cX2_nthCup) (maxL := 4) (ret := some .int) (by decide) rfl (Nat.le_of_ble_eq_true rfl) ?_
  intro p e s m below meth c hx hb hr hml hts hown hlocks hB ls hl Q hQ
  have hN := hB
  have hown : s.vm.findClass RX2 = some m.cls := hown
  have hl : lv_has ls 4 [(0, .int p0), (1, .int p1)] := hl
  unfold f_O_nthCup at h
  have L_4 : ∀ (x0 : Int32) (n_4 : Nat) (x2 : Int32) (x3 : Int32) (ls : Array Slot) (hl : lv_has ls 4 [(0, .int x0), (2, .int x2), (3, .int x3)]) (h : it2 (bd_O_nthCup_4 x0) n_4 x2 x3 = some u), W p l e rm_O_nthCup s m [.int p0, .int p1].toArray below meth c s.heap [] 0 0 Q (F0 m 4 ls []) := by
    intro x0 n_4
    induction n_4 with
    | zero => intro x2 x3 ls hl h; exact kk_no h
    | succ n_4 ih_4 =>
      intro x2 x3 ls hl h
      have h : bd_O_nthCup_4 x0 (it2 (bd_O_nthCup_4 x0) n_4) x2 x3 = some u := h
      unfold bd_O_nthCup_4 at h
      refine lv_iload_n hx hb dX2_nthCup_4 rfl (lv_at hl 2 rfl) ?_
      refine lv_bipush (v := 6) hx hb dX2_nthCup_5 (by decide) ?_
      refine lv_icmp_ge (tgt := 34) hx hb dX2_nthCup_7 (by decide) (fun c_7 => ?_) (fun c_7 => ?_)
      · have h := kk_t c_7 h
        refine lv_iconst (v := 0) hx hb dX2_nthCup_34 (by decide) ?_
        exact kk_ri hx hb hr hlocks hQ h dX2_nthCup_35
      · have h := kk_f c_7 h
        refine lv_iload_n hx hb dX2_nthCup_10 rfl (lv_at hl 0 rfl) ?_
        refine lv_iload_n hx hb dX2_nthCup_11 rfl (lv_at hl 2 rfl) ?_
        refine lv_ishr hx hb dX2_nthCup_12 ?_
        refine lv_iconst (v := 1) hx hb dX2_nthCup_13 (by decide) ?_
        refine lv_iand hx hb dX2_nthCup_14 ?_
        refine lv_iconst (v := 1) hx hb dX2_nthCup_15 (by decide) ?_
        refine lv_icmp_ne (tgt := 28) hx hb dX2_nthCup_16 (by decide) (fun c_16 => ?_) (fun c_16 => ?_)
        · have h := kk_f c_16 h
          refine lv_iinc (v := x3 + 1) (lv' := [(3, .int (x3 + 1)), (0, .int x0), (2, .int x2)]) hx hb dX2_nthCup_28 hl (k := 2) rfl rfl (by decide) rfl (fun ls hl => ?_)
          refine lv_goto (tgt := 4) hx hb dX2_nthCup_31 (by decide) ?_
          exact ih_4 x2 (x3 + 1) _ (lv_sub hl [1, 2, 0] rfl) h
        · have h := kk_t c_16 h
          refine lv_iload_n hx hb dX2_nthCup_19 rfl (lv_at hl 1 rfl) ?_
          refine lv_if_ne (tgt := 25) hx hb dX2_nthCup_20 (by decide) (fun c_20 => ?_) (fun c_20 => ?_)
          · have h := kk_f c_20 h
            refine lv_iinc (v := x2 + (-1)) (lv' := [(2, .int (x2 + (-1))), (0, .int x0), (3, .int x3)]) hx hb dX2_nthCup_25 hl (k := 1) rfl rfl (by decide) rfl (fun ls hl => ?_)
            refine lv_iinc (v := x3 + 1) (lv' := [(3, .int (x3 + 1)), (2, .int (x2 + (-1))), (0, .int x0)]) hx hb dX2_nthCup_28 hl (k := 2) rfl rfl (by decide) rfl (fun ls hl => ?_)
            refine lv_goto (tgt := 4) hx hb dX2_nthCup_31 (by decide) ?_
            exact ih_4 (x2 + (-1)) (x3 + 1) _ (lv_sub hl [2, 1, 0] rfl) h
          · have h := kk_t c_20 h
            refine lv_iload_n hx hb dX2_nthCup_23 rfl (lv_at hl 2 rfl) ?_
            exact kk_ri hx hb hr hlocks hQ h dX2_nthCup_24
  refine lv_iload_n hx hb dX2_nthCup_0 rfl (lv_at hl 1 rfl) ?_
  refine lv_istore_n (lv' := [(2, .int p1), (0, .int p0), (1, .int p1)]) hx hb dX2_nthCup_1 rfl hl (by decide) rfl (fun ls hl => ?_)
  refine lv_iconst (v := 0) hx hb dX2_nthCup_2 (by decide) ?_
  refine lv_istore_n (lv' := [(3, .int 0), (2, .int p1), (0, .int p0), (1, .int p1)]) hx hb dX2_nthCup_3 rfl hl (by decide) rfl (fun ls hl => ?_)
  exact L_4 p0 _ p1 0 _ (lv_sub hl [2, 1, 0] rfl) h
abbrev rm_O_ofRank : Room := { frames := 1, cells := 0, slots := 0, locals := 24 }
theorem nd_O_ofRank : yX2_ofRank.cls ≠ "java/lang/invoke/MethodHandle" ∧ yX2_ofRank.cls ≠ "java/lang/invoke/VarHandle" ∧ (parseMethodDescriptor yX2_ofRank.desc).map (fun d => d.parameters.length) = some 1 := by decide +kernel
set_option maxHeartbeats 4000000 in
set_option maxRecDepth 100000 in
theorem c_O_ofRank (l : Launch) (p0 : Int32) (u : Int32) (h : f_O_ofRank p0 = some u) : Met l yX2_ofRank wsX2_ofRank rm_O_ofRank (kk_PS [.int p0]) (vp_Si (fun r => r = u)) 0 0 (fun _ => False) := by
  refine kk_met (cc := cX2_ofRank) (maxL := 6) (ret := some .int) (by decide) rfl (Nat.le_of_ble_eq_true rfl) ?_
  intro p e s m below meth c hx hb hr hml hts hown hlocks hB ls hl Q hQ
  have hN := hB
  have hown : s.vm.findClass RX2 = some m.cls := hown
  have hl : lv_has ls 6 [(0, .int p0)] := hl
  unfold f_O_ofRank at h
  have L_13 : ∀ (x3 : Int32) (n_13 : Nat) (x1 : Int32) (x2 : Int32) (x4 : Int32) (ls : Array Slot) (hl : lv_has ls 6 [(1, .int x1), (2, .int x2), (3, .int x3), (4, .int x4)]) (h : it3 (bd_O_ofRank_13 x3) n_13 x1 x2 x4 = some u), W p l e rm_O_ofRank s m [.int p0].toArray below meth c s.heap [] 0 0 Q (F0 m 13 ls []) := by
    intro x3 n_13
    induction n_13 with
    | zero => intro x1 x2 x4 ls hl h; exact kk_no h
    | succ n_13 ih_13 =>
      intro x1 x2 x4 ls hl h
      have h : bd_O_ofRank_13 x3 (it3 (bd_O_ofRank_13 x3) n_13) x1 x2 x4 = some u := h
      unfold bd_O_ofRank_13 at h
      refine lv_iload hx hb dX2_ofRank_13 (lv_at hl 3 rfl) ?_
      refine lv_bipush (v := 6) hx hb dX2_ofRank_15 (by decide) ?_
      refine lv_icmp_ge (tgt := 57) hx hb dX2_ofRank_17 (by decide) (fun c_17 => ?_) (fun c_17 => ?_)
      · have h := kk_t c_17 h
        refine lv_iload_n hx hb dX2_ofRank_57 rfl (lv_at hl 0 rfl) ?_
        exact kk_ri hx hb hr hlocks hQ h dX2_ofRank_58
      · have h := kk_f c_17 h
        refine lv_iload_n hx hb dX2_ofRank_20 rfl (lv_at hl 1 rfl) ?_
        refine lv_iload_n hx hb dX2_ofRank_21 rfl (lv_at hl 2 rfl) ?_
        refine lv_iload hx hb dX2_ofRank_22 (lv_at hl 3 rfl) ?_
        obtain ⟨u_24, h_24, h⟩ := kk_b h
        refine kk_si (va_runS (As := [.int x3, .int x4]) (rest := [.int x2]) ⟨hx, hb, hml, hown, hts⟩ (c_O_cupOn l x3 x4 u_24 h_24) (va_cwS 2 hts gX2_ofRank_X2_cupOn rfl rfl rfl nd_O_cupOn ⟨Nat.le_of_ble_eq_true rfl, Nat.le_of_ble_eq_true rfl⟩) (kk_preS hN) rfl rfl hl.1 rfl (lv_room (Nat.le_of_ble_eq_true rfl)) dX2_ofRank_24 ⟨Nat.zero_le _, Nat.zero_le _⟩) ?_
        obtain ⟨u_27, h_27, h⟩ := kk_b h
        refine kk_si (va_runS (As := [.int x2, .int u_24]) (rest := []) ⟨hx, hb, hml, hown, hts⟩ (c_O_nthCup l x2 u_24 u_27 h_27) (va_cwS 2 hts gX2_ofRank_X2_nthCup rfl rfl rfl nd_O_nthCup ⟨Nat.le_of_ble_eq_true rfl, Nat.le_of_ble_eq_true rfl⟩) (kk_preS hN) rfl rfl hl.1 rfl (lv_room (Nat.le_of_ble_eq_true rfl)) dX2_ofRank_27 ⟨Nat.zero_le _, Nat.zero_le _⟩) ?_
        refine lv_istore (lv' := [(5, .int u_27), (1, .int x1), (2, .int x2), (3, .int x3), (4, .int x4)]) hx hb dX2_ofRank_30 hl (by decide) rfl (fun ls hl => ?_)
        refine lv_iload_n hx hb dX2_ofRank_32 rfl (lv_at hl 1 rfl) ?_
        refine lv_iload hx hb dX2_ofRank_33 (lv_at hl 0 rfl) ?_
        refine lv_iconst (v := 3) hx hb dX2_ofRank_35 (by decide) ?_
        refine lv_iload hx hb dX2_ofRank_36 (lv_at hl 4 rfl) ?_
        refine lv_imul hx hb dX2_ofRank_38 ?_
        refine lv_ishl hx hb dX2_ofRank_39 ?_
        refine lv_ior hx hb dX2_ofRank_40 ?_
        refine lv_istore_n (lv' := [(1, .int (x1 ||| (u_27 <<< ((3 * x4) &&& 31)))), (5, .int u_27), (2, .int x2), (3, .int x3), (4, .int x4)]) hx hb dX2_ofRank_41 rfl hl (by decide) rfl (fun ls hl => ?_)
        refine lv_iload_n hx hb dX2_ofRank_42 rfl (lv_at hl 2 rfl) ?_
        refine lv_iconst (v := 1) hx hb dX2_ofRank_43 (by decide) ?_
        refine lv_iload hx hb dX2_ofRank_44 (lv_at hl 1 rfl) ?_
        refine lv_ishl hx hb dX2_ofRank_46 ?_
        refine lv_iconst (v := (-1)) hx hb dX2_ofRank_47 (by decide) ?_
        refine lv_ixor hx hb dX2_ofRank_48 ?_
        refine lv_iand hx hb dX2_ofRank_49 ?_
        refine lv_istore_n (lv' := [(2, .int (x2 &&& (((1 : Int32) <<< (u_27 &&& 31)) ^^^ (-1)))), (1, .int (x1 ||| (u_27 <<< ((3 * x4) &&& 31)))), (5, .int u_27), (3, .int x3), (4, .int x4)]) hx hb dX2_ofRank_50 rfl hl (by decide) rfl (fun ls hl => ?_)
        refine lv_iinc (v := x4 + 1) (lv' := [(4, .int (x4 + 1)), (2, .int (x2 &&& (((1 : Int32) <<< (u_27 &&& 31)) ^^^ (-1)))), (1, .int (x1 ||| (u_27 <<< ((3 * x4) &&& 31)))), (5, .int u_27), (3, .int x3)]) hx hb dX2_ofRank_51 hl (k := 4) rfl rfl (by decide) rfl (fun ls hl => ?_)
        refine lv_goto (tgt := 13) hx hb dX2_ofRank_54 (by decide) ?_
        exact ih_13 (x1 ||| (u_27 <<< ((3 * x4) &&& 31))) (x2 &&& (((1 : Int32) <<< (u_27 &&& 31)) ^^^ (-1))) (x4 + 1) _ (lv_sub hl [2, 1, 4, 0] rfl) h
  refine lv_iconst (v := 0) hx hb dX2_ofRank_0 (by decide) ?_
  refine lv_istore_n (lv' := [(1, .int 0), (0, .int p0)]) hx hb dX2_ofRank_1 rfl hl (by decide) rfl (fun ls hl => ?_)
  refine lv_bipush (v := 63) hx hb dX2_ofRank_2 (by decide) ?_
  refine lv_istore_n (lv' := [(2, .int 63), (1, .int 0), (0, .int p0)]) hx hb dX2_ofRank_4 rfl hl (by decide) rfl (fun ls hl => ?_)
  refine lv_iload_n hx hb dX2_ofRank_5 rfl (lv_at hl 2 rfl) ?_
  obtain ⟨u_6, h_6, h⟩ := kk_b h
  refine kk_si (va_runS (As := [.int p0]) (rest := []) ⟨hx, hb, hml, hown, hts⟩ (c_O_lesserCupsLeft l p0 u_6 h_6) (va_cwS 1 hts gX2_ofRank_X2_lesserCupsLeft rfl rfl rfl nd_O_lesserCupsLeft ⟨Nat.le_of_ble_eq_true rfl, Nat.le_of_ble_eq_true rfl⟩) (kk_preS hN) rfl rfl hl.1 rfl (lv_room (Nat.le_of_ble_eq_true rfl)) dX2_ofRank_6 ⟨Nat.zero_le _, Nat.zero_le _⟩) ?_
  refine lv_istore_n (lv' := [(3, .int u_6), (2, .int 63), (1, .int 0), (0, .int p0)]) hx hb dX2_ofRank_9 rfl hl (by decide) rfl (fun ls hl => ?_)
  refine lv_iconst (v := 0) hx hb dX2_ofRank_10 (by decide) ?_
  refine lv_istore (lv' := [(4, .int 0), (3, .int u_6), (2, .int 63), (1, .int 0), (0, .int p0)]) hx hb dX2_ofRank_11 hl (by decide) rfl (fun ls hl => ?_)
  exact L_13 u_6 _ 0 63 0 _ (lv_sub hl [3, 2, 1, 0] rfl) h
