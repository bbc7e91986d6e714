abbrev rm_J_fill : Room := { frames := 0, cells := 0, slots := 0, locals := 0 }
theorem nd_J_fill : yJ7_fill_53178.cls ≠ "java/lang/invoke/MethodHandle" ∧ yJ7_fill_53178.cls ≠ "java/lang/invoke/VarHandle" ∧ (parseMethodDescriptor yJ7_fill_53178.desc).map (fun d => d.parameters.length) = some 2 := by decide +kernel
abbrev wo_J_fill (cy : Nat → Nat) (a : Nat → Nat) (u : (Nat → Int32)) : va_W := [(a 0, .inl (cy 0, 720, .inl u))]
set_option maxHeartbeats 4000000 in
set_option maxRecDepth 100000 in
theorem c_J_fill (l : Launch) (D : va_G) (cy : Nat → Nat) (a : Nat → Nat) (sz : Nat) (p1 : Int32) (v_arr : (Nat → Int32)) (u : (Nat → Int32)) (h : f_J_fill p1 v_arr = some u) : Met l yJ7_fill_53178 wsJ7_fill_53178 rm_J_fill (kk_PW D cy [(a 0, .inl (cy 0, 720, .inl v_arr))] sz [.ref (a 0), .int p1]) (kk_Qv D (wo_J_fill cy a u) (va_A [(a 0, .inl (cy 0, 720, .inl v_arr))] sz)) 0 0 (va_A [(a 0, .inl (cy 0, 720, .inl v_arr))] sz) := by
  refine kk_met (cc := cJ7_fill_53178) (maxL := 4) (ret := none) (by decide) rfl (Nat.le_of_ble_eq_true rfl) ?_
  intro p e s m below meth c hx hb hr hml hts hown hlocks hB ls hl Q hQ
  obtain ⟨hsz, hP, hE, hD0⟩ := hB
  subst hsz
  have hD := hD0.self (sz := s.heap.size)
  generalize hAe : va_A [(a 0, .inl (cy 0, 720, .inl v_arr))] s.heap.size = A at hD hQ
  have hA : ∀ q : Nat, s.heap.size ≤ q → A q := fun q h => by rw [← hAe]; exact Or.inr h
  have hS : va_S A s.heap s.heap [] := va_S.rf
  have hown : s.vm.findClass RJ7 = some m.cls := hown
  have hl : lv_has ls 4 [(0, .ref (a 0)), (1, .int p1)] := hl
  unfold f_J_fill at h
  have L_5 : ∀ (x1 : Int32) (x3 : Int32) (n_5 : Nat) (x2 : Int32) (v_arr : (Nat → Int32)) (H : Heap) (locs : List Loc) (hP : va_P D vwCl [(a 0, .inl (cy 0, 720, .inl v_arr))] H) (hD : va_D A [(a 0, .inl (cy 0, 720, .inl v_arr))]) (hS : va_S A s.heap H locs) (ls : Array Slot) (hl : lv_has ls 4 [(0, .ref (a 0)), (1, .int x1), (2, .int x2), (3, .int x3)]) (h : it2 (bd_J_fill_5 x1 x3) n_5 x2 v_arr = some u), W p l e rm_J_fill s m [.ref (a 0), .int p1].toArray below meth c H locs 0 0 Q (F0 m 5 ls []) := by
    intro x1 x3 n_5
    induction n_5 with
    | zero => intro x2 v_arr H locs hP hD hS ls hl h; exact kk_no h
    | succ n_5 ih_5 =>
      intro x2 v_arr H locs hP hD hS ls hl h
      have h : bd_J_fill_5 x1 x3 (it2 (bd_J_fill_5 x1 x3) n_5) x2 v_arr = some u := h
      unfold bd_J_fill_5 at h
      refine lv_iload_n hx hb dJ7_fill_53178_5 rfl (lv_at hl 2 rfl) ?_
      refine lv_iload_n hx hb dJ7_fill_53178_6 rfl (lv_at hl 3 rfl) ?_
      refine lv_icmp_ge (tgt := 20) hx hb dJ7_fill_53178_7 (by decide) (fun c_7 => ?_) (fun c_7 => ?_)
      · have h := kk_t c_7 h
        exact kk_rwv (wf := wo_J_fill cy a) hx hb hr hlocks h hQ hP hD hS dJ7_fill_53178_20
      · have h := kk_f c_7 h
        refine lv_aload_n hx hb dJ7_fill_53178_10 rfl (lv_at hl 0 rfl) ?_
        refine lv_iload_n hx hb dJ7_fill_53178_11 rfl (lv_at hl 2 rfl) ?_
        refine lv_iload_n hx hb dJ7_fill_53178_12 rfl (lv_at hl 1 rfl) ?_
        obtain ⟨i_13, h⟩ := kk_x h
        refine va_iast hx hb hE.1 hP hD hS 0 0 rfl rfl i_13 dJ7_fill_53178_13 (fun H locs hP hD hS => ?_)
        have hP : va_P D vwCl [(a 0, .inl (cy 0, 720, .inl (upd v_arr (x2 : Int32).toNatClampNeg x1)))] H := hP
        have hD : va_D A [(a 0, .inl (cy 0, 720, .inl (upd v_arr (x2 : Int32).toNatClampNeg x1)))] := hD
        refine lv_iinc (v := x2 + 1) (lv' := [(2, .int (x2 + 1)), (0, .ref (a 0)), (1, .int x1), (3, .int x3)]) hx hb dJ7_fill_53178_14 hl (k := 2) rfl rfl (by decide) rfl (fun ls hl => ?_)
        refine lv_goto (tgt := 5) hx hb dJ7_fill_53178_17 (by decide) ?_
        exact ih_5 (x2 + 1) (upd v_arr (x2 : Int32).toNatClampNeg x1) _ _ hP hD hS _ (lv_sub hl [1, 2, 0, 3] rfl) h
  refine lv_iconst (v := 0) hx hb dJ7_fill_53178_0 (by decide) ?_
  refine lv_istore_n (lv' := [(2, .int 0), (0, .ref (a 0)), (1, .int p1)]) hx hb dJ7_fill_53178_1 rfl hl (by decide) rfl (fun ls hl => ?_)
  refine lv_aload_n hx hb dJ7_fill_53178_2 rfl (lv_at hl 1 rfl) ?_
  refine va_alen hx hb hE.1 hP 0 0 rfl rfl (v := 720) rfl dJ7_fill_53178_3 ?_
  refine lv_istore_n (lv' := [(3, .int 720), (2, .int 0), (0, .ref (a 0)), (1, .int p1)]) hx hb dJ7_fill_53178_4 rfl hl (by decide) rfl (fun ls hl => ?_)
  exact L_5 p1 720 _ 0 v_arr _ _ hP hD hS _ (lv_sub hl [2, 3, 1, 0] rfl) h
abbrev rm_P_reach : Room := { frames := 2, cells := 0, slots := 0, locals := 45 }
theorem nv_P_reach : yX4_reach.cls = RX4 ∧ yX4_reach.cls ≠ "java/lang/invoke/MethodHandle" ∧ yX4_reach.cls ≠ "java/lang/invoke/VarHandle" ∧ (parseMethodDescriptor yX4_reach.desc).map (fun d => d.parameters.length) = some 2 := by decide +kernel
abbrev wo_P_reach (cy : Nat → Nat) (a : Nat → Nat) (u : Int32 × (Nat → Int32) × (Nat → Int32)) : va_W := [(a 0, .inr (3, [.ref (a 1), .ref (a 2), .int u.1])), (a 1, .inl (cy 0, 720, .inl u.2.1)), (a 2, .inl (cy 0, 720, .inl u.2.2))]
set_option maxHeartbeats 4000000 in
set_option maxRecDepth 100000 in
theorem c_P_reach (l : Launch) (D : va_G) (cy : Nat → Nat) (a : Nat → Nat) (sz : Nat) (p1 : Int32) (p2 : Int32) (v_queued : Int32) (v_steps : (Nat → Int32)) (v_queue : (Nat → Int32)) (u : Int32 × (Nat → Int32) × (Nat → Int32)) (h : f_P_reach p1 p2 v_queued v_steps v_queue = some u) : Met l yX4_reach wsX4_reach rm_P_reach (kk_PW D cy [(a 0, .inr (3, [.ref (a 1), .ref (a 2), .int v_queued])), (a 1, .inl (cy 0, 720, .inl v_steps)), (a 2, .inl (cy 0, 720, .inl v_queue))] sz [.ref (a 0), .int p1, .int p2]) (kk_Qv D (wo_P_reach cy a u) (va_A [(a 0, .inr (3, [.ref (a 1), .ref (a 2), .int v_queued])), (a 1, .inl (cy 0, 720, .inl v_steps)), (a 2, .inl (cy 0, 720, .inl v_queue))] sz)) 0 0 (va_A [(a 0, .inr (3, [.ref (a 1), .ref (a 2), .int v_queued])), (a 1, .inl (cy 0, 720, .inl v_steps)), (a 2, .inl (cy 0, 720, .inl v_queue))] sz) := by
  refine kk_met (cc := cX4_reach) (maxL := 4) (ret := none) (by decide) rfl (Nat.le_of_ble_eq_true rfl) ?_
  intro p e s m below meth c hx hb hr hml hts hown hlocks hB ls hl Q hQ
  obtain ⟨hsz, hP, hE, hD0⟩ := hB
  subst hsz
  have hD := hD0.self (sz := s.heap.size)
  generalize hAe : va_A [(a 0, .inr (3, [.ref (a 1), .ref (a 2), .int v_queued])), (a 1, .inl (cy 0, 720, .inl v_steps)), (a 2, .inl (cy 0, 720, .inl v_queue))] s.heap.size = A at hD hQ
  have hA : ∀ q : Nat, s.heap.size ≤ q → A q := fun q h => by rw [← hAe]; exact Or.inr h
  have hS : va_S A s.heap s.heap [] := va_S.rf
  have hown : s.vm.findClass RX4 = some m.cls := hown
  have hl : lv_has ls 4 [(0, .ref (a 0)), (1, .int p1), (2, .int p2)] := hl
  unfold f_P_reach at h
  refine lv_iload_n hx hb dX4_reach_0 rfl (lv_at hl 1 rfl) ?_
  obtain ⟨u_1, h_1, h⟩ := kk_b h
  refine kk_si (va_runS (As := [.int p1]) (rest := []) ⟨hx, hb, hml, hown, hts⟩ (c_O_rankOf l p1 u_1 h_1) (va_cwS 1 hts gX4_reach_X2_rankOf rfl rfl rfl nd_O_rankOf ⟨Nat.le_of_ble_eq_true rfl, Nat.le_of_ble_eq_true rfl⟩) (kk_preS hE.2) rfl rfl hl.1 rfl (lv_room (Nat.le_of_ble_eq_true rfl)) dX4_reach_1 ⟨Nat.zero_le _, Nat.zero_le _⟩) ?_
  refine lv_istore_n (lv' := [(3, .int u_1), (0, .ref (a 0)), (1, .int p1), (2, .int p2)]) hx hb dX4_reach_4 rfl hl (by decide) rfl (fun ls hl => ?_)
  refine lv_iload_n hx hb dX4_reach_5 rfl (lv_at hl 0 rfl) ?_
  refine lv_iconst (v := 0) hx hb dX4_reach_6 (by decide) ?_
  refine lv_sipush (v := 719) hx hb dX4_reach_7 (by decide) ?_
  obtain ⟨u_10, h_10, h⟩ := kk_b h
  refine kk_si (va_runSN (As := [.int u_1, .int 0, .int 719]) (rest := []) ⟨hx, hb, hml, hown, hts⟩ (c_C_isWithin l u_1 0 719 u_10 h_10) ⟨va_cnB 3 hts ggX4_reach_X9_isWithin rfl rfl rfl (hE.2 _ (List.mem_of_getElem? (i := 14) rfl)) (hts (.initialized RX9) (List.mem_of_getElem? (i := 19) rfl)) nd_C_isWithin ⟨Nat.le_of_ble_eq_true rfl, Nat.le_of_ble_eq_true rfl⟩, (hts (.static yX9_isWithin) (List.mem_of_getElem? (i := 18) rfl)), trivial⟩ (kk_preS hE.2) rfl rfl hl.1 rfl (lv_room (Nat.le_of_ble_eq_true rfl)) dX4_reach_10 ⟨Nat.zero_le _, Nat.zero_le _⟩) ?_
  refine lv_if_eq (tgt := 64) hx hb dX4_reach_13 (by decide) (fun c_13 => ?_) (fun c_13 => ?_)
  · have h := kk_t c_13 h
    exact kk_rwv (wf := wo_P_reach cy a) hx hb hr hlocks h hQ hP hD hS dX4_reach_64
  · have h := kk_f c_13 h
    refine lv_aload_n hx hb dX4_reach_16 rfl (lv_at hl 1 rfl) ?_
    refine va_get (D := D) (ci := 3) (v := .ref (a 1)) (C := RX4) (T := TX4) (N := 3) hx hb hts (fun _ h9 => List.mem_cons_of_mem _ (List.mem_append_right _ h9)) hown hE.1 hP 0 rfl rfl 0 (by decide) (hts (.fieldLink RX4 11 "PeaCups$Paths" "steps" "[I") (List.mem_of_getElem? (i := 1) rfl)) (fun _ h9 => h9) rfl dX4_reach_17 ?_
    refine lv_iload_n hx hb dX4_reach_20 rfl (lv_at hl 0 rfl) ?_
    obtain ⟨i_21, h⟩ := kk_x h
    refine va_iald hx hb hE.1 hP 1 0 rfl rfl i_21 dX4_reach_21 ?_
    refine lv_bipush (v := (-6)) hx hb dX4_reach_22 (by decide) ?_
    refine lv_icmp_ne (tgt := 64) hx hb dX4_reach_24 (by decide) (fun c_24 => ?_) (fun c_24 => ?_)
    · have h := kk_f c_24 h
      exact kk_rwv (wf := wo_P_reach cy a) hx hb hr hlocks h hQ hP hD hS dX4_reach_64
    · have h := kk_t c_24 h
      refine lv_aload_n hx hb dX4_reach_27 rfl (lv_at hl 1 rfl) ?_
      refine va_get (D := D) (ci := 3) (v := .int v_queued) (C := RX4) (T := TX4) (N := 3) hx hb hts (fun _ h9 => List.mem_cons_of_mem _ (List.mem_append_right _ h9)) hown hE.1 hP 0 rfl rfl 2 (by decide) (hts (.fieldLink RX4 26 "PeaCups$Paths" "queued" "I") (List.mem_of_getElem? (i := 2) rfl)) (fun _ h9 => h9) rfl dX4_reach_28 ?_
      refine lv_sipush (v := 720) hx hb dX4_reach_31 (by decide) ?_
      refine lv_icmp_ge (tgt := 64) hx hb dX4_reach_34 (by decide) (fun c_34 => ?_) (fun c_34 => ?_)
      · have h := kk_t c_34 h
        exact kk_rwv (wf := wo_P_reach cy a) hx hb hr hlocks h hQ hP hD hS dX4_reach_64
      · have h := kk_f c_34 h
        refine lv_aload_n hx hb dX4_reach_37 rfl (lv_at hl 1 rfl) ?_
        refine va_get (D := D) (ci := 3) (v := .ref (a 1)) (C := RX4) (T := TX4) (N := 3) hx hb hts (fun _ h9 => List.mem_cons_of_mem _ (List.mem_append_right _ h9)) hown hE.1 hP 0 rfl rfl 0 (by decide) (hts (.fieldLink RX4 11 "PeaCups$Paths" "steps" "[I") (List.mem_of_getElem? (i := 1) rfl)) (fun _ h9 => h9) rfl dX4_reach_38 ?_
        refine lv_iload_n hx hb dX4_reach_41 rfl (lv_at hl 0 rfl) ?_
        refine lv_iload_n hx hb dX4_reach_42 rfl (lv_at hl 3 rfl) ?_
        obtain ⟨i_43, h⟩ := kk_x h
        refine va_iast hx hb hE.1 hP hD hS 1 0 rfl rfl i_43 dX4_reach_43 (fun H locs hP hD hS => ?_)
        have hP : va_P D vwCl [(a 0, .inr (3, [.ref (a 1), .ref (a 2), .int v_queued])), (a 1, .inl (cy 0, 720, .inl (upd v_steps (u_1 : Int32).toNatClampNeg p2))), (a 2, .inl (cy 0, 720, .inl v_queue))] H := hP
        have hD : va_D A [(a 0, .inr (3, [.ref (a 1), .ref (a 2), .int v_queued])), (a 1, .inl (cy 0, 720, .inl (upd v_steps (u_1 : Int32).toNatClampNeg p2))), (a 2, .inl (cy 0, 720, .inl v_queue))] := hD
        refine lv_aload_n hx hb dX4_reach_44 rfl (lv_at hl 1 rfl) ?_
        refine va_get (D := D) (ci := 3) (v := .ref (a 2)) (C := RX4) (T := TX4) (N := 3) hx hb hts (fun _ h9 => List.mem_cons_of_mem _ (List.mem_append_right _ h9)) hown hE.1 hP 0 rfl rfl 1 (by decide) (hts (.fieldLink RX4 17 "PeaCups$Paths" "queue" "[I") (List.mem_of_getElem? (i := 3) rfl)) (fun _ h9 => h9) rfl dX4_reach_45 ?_
        refine lv_aload_n hx hb dX4_reach_48 rfl (lv_at hl 1 rfl) ?_
        refine va_get (D := D) (ci := 3) (v := .int v_queued) (C := RX4) (T := TX4) (N := 3) hx hb hts (fun _ h9 => List.mem_cons_of_mem _ (List.mem_append_right _ h9)) hown hE.1 hP 0 rfl rfl 2 (by decide) (hts (.fieldLink RX4 26 "PeaCups$Paths" "queued" "I") (List.mem_of_getElem? (i := 2) rfl)) (fun _ h9 => h9) rfl dX4_reach_49 ?_
        refine lv_iload_n hx hb dX4_reach_52 rfl (lv_at hl 2 rfl) ?_
        obtain ⟨i_53, h⟩ := kk_x h
        refine va_iast hx hb hE.1 hP hD hS 2 0 rfl rfl i_53 dX4_reach_53 (fun H locs hP hD hS => ?_)
        have hP : va_P D vwCl [(a 0, .inr (3, [.ref (a 1), .ref (a 2), .int v_queued])), (a 1, .inl (cy 0, 720, .inl (upd v_steps (u_1 : Int32).toNatClampNeg p2))), (a 2, .inl (cy 0, 720, .inl (upd v_queue (v_queued : Int32).toNatClampNeg p1)))] H := hP
        have hD : va_D A [(a 0, .inr (3, [.ref (a 1), .ref (a 2), .int v_queued])), (a 1, .inl (cy 0, 720, .inl (upd v_steps (u_1 : Int32).toNatClampNeg p2))), (a 2, .inl (cy 0, 720, .inl (upd v_queue (v_queued : Int32).toNatClampNeg p1)))] := hD
        refine lv_aload_n hx hb dX4_reach_54 rfl (lv_at hl 1 rfl) ?_
        refine lv_dup hx hb dX4_reach_55 rfl ?_
        refine va_get (D := D) (ci := 3) (v := .int v_queued) (C := RX4) (T := TX4) (N := 3) hx hb hts (fun _ h9 => List.mem_cons_of_mem _ (List.mem_append_right _ h9)) hown hE.1 hP 0 rfl rfl 2 (by decide) (hts (.fieldLink RX4 26 "PeaCups$Paths" "queued" "I") (List.mem_of_getElem? (i := 2) rfl)) (fun _ h9 => h9) rfl dX4_reach_56 ?_
        refine lv_iconst (v := 1) hx hb dX4_reach_59 (by decide) ?_
        refine lv_iadd hx hb dX4_reach_60 ?_
        refine va_put (D := D) (ci := 3) (v := .int (v_queued + 1)) (ty := .int) (C := RX4) (T := TX4) (N := 3) hx hb hts (fun _ h9 => List.mem_cons_of_mem _ (List.mem_append_right _ h9)) tyX4 tyX4_ok nmX4 hown hE.1 hP hD hS 0 rfl rfl 2 (by decide) (hts (.fieldLink RX4 26 "PeaCups$Paths" "queued" "I") (List.mem_of_getElem? (i := 2) rfl)) (fun _ h9 => h9) rfl (by decide +kernel) rfl rfl (Nat.le_of_ble_eq_true rfl) dX4_reach_61 (fun H locs hP hD hS => ?_)
        have hP : va_P D vwCl [(a 0, .inr (3, [.ref (a 1), .ref (a 2), .int (v_queued + 1)])), (a 1, .inl (cy 0, 720, .inl (upd v_steps (u_1 : Int32).toNatClampNeg p2))), (a 2, .inl (cy 0, 720, .inl (upd v_queue (v_queued : Int32).toNatClampNeg p1)))] H := hP
        have hD : va_D A [(a 0, .inr (3, [.ref (a 1), .ref (a 2), .int (v_queued + 1)])), (a 1, .inl (cy 0, 720, .inl (upd v_steps (u_1 : Int32).toNatClampNeg p2))), (a 2, .inl (cy 0, 720, .inl (upd v_queue (v_queued : Int32).toNatClampNeg p1)))] := hD
        exact kk_rwv (wf := wo_P_reach cy a) hx hb hr hlocks h hQ hP hD hS dX4_reach_64
abbrev rm_P_stepsFrom : Room := { frames := 2, cells := 0, slots := 0, locals := 45 }
theorem nv_P_stepsFrom : yX4_stepsFrom.cls = RX4 ∧ yX4_stepsFrom.cls ≠ "java/lang/invoke/MethodHandle" ∧ yX4_stepsFrom.cls ≠ "java/lang/invoke/VarHandle" ∧ (parseMethodDescriptor yX4_stepsFrom.desc).map (fun d => d.parameters.length) = some 1 := by decide +kernel
set_option maxHeartbeats 4000000 in
set_option maxRecDepth 100000 in
theorem c_P_stepsFrom (l : Launch) (D : va_G) (cy : Nat → Nat) (a : Nat → Nat) (p1 : Int32) (v_queued : Int32) (v_steps : (Nat → Int32)) (v_queue : (Nat → Int32)) (u : Int32) (h : f_P_stepsFrom p1 v_steps = some u) : Met l yX4_stepsFrom wsX4_stepsFrom rm_P_stepsFrom (kk_PR D cy [(a 0, .inr (3, [.ref (a 1), .ref (a 2), .int v_queued])), (a 1, .inl (cy 0, 720, .inl v_steps)), (a 2, .inl (cy 0, 720, .inl v_queue))] [.ref (a 0), .int p1]) (vp_Si (fun r => r = u)) 0 0 (fun _ => False) := by
  refine kk_met (cc := cX4_stepsFrom) (maxL := 3) (ret := some .int) (by decide) rfl (Nat.le_of_ble_eq_true rfl) ?_
  intro p e s m below meth c hx hb hr hml hts hown hlocks hB ls hl Q hQ
  obtain ⟨hP, hE⟩ := hB
  have hown : s.vm.findClass RX4 = some m.cls := hown
  have hl : lv_has ls 3 [(0, .ref (a 0)), (1, .int p1)] := hl
  unfold f_P_stepsFrom at h
  refine lv_iload_n hx hb dX4_stepsFrom_0 rfl (lv_at hl 1 rfl) ?_
  obtain ⟨u_1, h_1, h⟩ := kk_b h
  refine kk_si (va_runS (As := [.int p1]) (rest := []) ⟨hx, hb, hml, hown, hts⟩ (c_O_rankOf l p1 u_1 h_1) (va_cwS 1 hts gX4_stepsFrom_X2_rankOf rfl rfl rfl nd_O_rankOf ⟨Nat.le_of_ble_eq_true rfl, Nat.le_of_ble_eq_true rfl⟩) (kk_preS hE.2) rfl rfl hl.1 rfl (lv_room (Nat.le_of_ble_eq_true rfl)) dX4_stepsFrom_1 ⟨Nat.zero_le _, Nat.zero_le _⟩) ?_
  refine lv_istore_n (lv' := [(2, .int u_1), (0, .ref (a 0)), (1, .int p1)]) hx hb dX4_stepsFrom_4 rfl hl (by decide) rfl (fun ls hl => ?_)
  refine lv_iload_n hx hb dX4_stepsFrom_5 rfl (lv_at hl 0 rfl) ?_
  refine lv_iconst (v := 0) hx hb dX4_stepsFrom_6 (by decide) ?_
  refine lv_sipush (v := 719) hx hb dX4_stepsFrom_7 (by decide) ?_
  obtain ⟨u_10, h_10, h⟩ := kk_b h
  refine kk_si (va_runSN (As := [.int u_1, .int 0, .int 719]) (rest := []) ⟨hx, hb, hml, hown, hts⟩ (c_C_isWithin l u_1 0 719 u_10 h_10) ⟨va_cnB 3 hts ggX4_stepsFrom_X9_isWithin rfl rfl rfl (hE.2 _ (List.mem_of_getElem? (i := 14) rfl)) (hts (.initialized RX9) (List.mem_of_getElem? (i := 17) rfl)) nd_C_isWithin ⟨Nat.le_of_ble_eq_true rfl, Nat.le_of_ble_eq_true rfl⟩, (hts (.static yX9_isWithin) (List.mem_of_getElem? (i := 16) rfl)), trivial⟩ (kk_preS hE.2) rfl rfl hl.1 rfl (lv_room (Nat.le_of_ble_eq_true rfl)) dX4_stepsFrom_10 ⟨Nat.zero_le _, Nat.zero_le _⟩) ?_
  refine lv_if_eq (tgt := 25) hx hb dX4_stepsFrom_13 (by decide) (fun c_13 => ?_) (fun c_13 => ?_)
  · have h := kk_t c_13 h
    refine lv_bipush (v := (-6)) hx hb dX4_stepsFrom_25 (by decide) ?_
    exact kk_ri hx hb hr hlocks hQ h dX4_stepsFrom_27
  · have h := kk_f c_13 h
    refine lv_aload_n hx hb dX4_stepsFrom_16 rfl (lv_at hl 1 rfl) ?_
    refine va_get (D := D) (ci := 3) (v := .ref (a 1)) (C := RX4) (T := TX4) (N := 3) hx hb hts (fun _ h9 => List.mem_cons_of_mem _ (List.mem_append_right _ h9)) hown hE.1 hP 0 rfl rfl 0 (by decide) (hts (.fieldLink RX4 11 "PeaCups$Paths" "steps" "[I") (List.mem_of_getElem? (i := 1) rfl)) (fun _ h9 => h9) rfl dX4_stepsFrom_17 ?_
    refine lv_iload_n hx hb dX4_stepsFrom_20 rfl (lv_at hl 0 rfl) ?_
    obtain ⟨i_21, h⟩ := kk_x h
    refine va_iald hx hb hE.1 hP 1 0 rfl rfl i_21 dX4_stepsFrom_21 ?_
    refine lv_goto (tgt := 27) hx hb dX4_stepsFrom_22 (by decide) ?_
    exact kk_ri hx hb hr hlocks hQ h dX4_stepsFrom_27
abbrev rm_P_reachBeside : Room := { frames := 3, cells := 0, slots := 0, locals := 68 }
theorem nv_P_reachBeside : yX4_reachBeside.cls = RX4 ∧ yX4_reachBeside.cls ≠ "java/lang/invoke/MethodHandle" ∧ yX4_reachBeside.cls ≠ "java/lang/invoke/VarHandle" ∧ (parseMethodDescriptor yX4_reachBeside.desc).map (fun d => d.parameters.length) = some 2 := by decide +kernel
abbrev wo_P_reachBeside (cy : Nat → Nat) (a : Nat → Nat) (u : Int32 × (Nat → Int32) × (Nat → Int32)) : va_W := [(a 0, .inr (3, [.ref (a 1), .ref (a 2), .int u.1])), (a 1, .inl (cy 0, 720, .inl u.2.1)), (a 2, .inl (cy 0, 720, .inl u.2.2))]
set_option maxHeartbeats 4000000 in
set_option maxRecDepth 100000 in
theorem c_P_reachBeside (l : Launch) (D : va_G) (cy : Nat → Nat) (st : Nat → Nat) (a : Nat → Nat) (sz : Nat) (p1 : Int32) (p2 : Int32) (v_queued : Int32) (v_steps : (Nat → Int32)) (v_queue : (Nat → Int32)) (u : Int32 × (Nat → Int32) × (Nat → Int32)) (h : f_P_reachBeside p1 p2 v_queued v_steps v_queue = some u) : Met l yX4_reachBeside wsX4_reachBeside rm_P_reachBeside (kk_PWX D cy st [(a 0, .inr (3, [.ref (a 1), .ref (a 2), .int v_queued])), (a 1, .inl (cy 0, 720, .inl v_steps)), (a 2, .inl (cy 0, 720, .inl v_queue))] sz [.ref (a 0), .int p1, .int p2]) (kk_Qv D (wo_P_reachBeside cy a u) (va_A [(a 0, .inr (3, [.ref (a 1), .ref (a 2), .int v_queued])), (a 1, .inl (cy 0, 720, .inl v_steps)), (a 2, .inl (cy 0, 720, .inl v_queue))] sz)) 0 0 (va_A [(a 0, .inr (3, [.ref (a 1), .ref (a 2), .int v_queued])), (a 1, .inl (cy 0, 720, .inl v_steps)), (a 2, .inl (cy 0, 720, .inl v_queue))] sz) := by
  refine kk_met (cc := cX4_reachBeside) (maxL := 5) (ret := none) (by decide) rfl (Nat.le_of_ble_eq_true rfl) ?_
  intro p e s m below meth c hx hb hr hml hts hown hlocks hB ls hl Q hQ
  obtain ⟨hsz, hP, hE, hD0, hX⟩ := hB
  subst hsz
  have hD := hD0.self (sz := s.heap.size)
  generalize hAe : va_A [(a 0, .inr (3, [.ref (a 1), .ref (a 2), .int v_queued])), (a 1, .inl (cy 0, 720, .inl v_steps)), (a 2, .inl (cy 0, 720, .inl v_queue))] s.heap.size = A at hD hQ hX
  have hA : ∀ q : Nat, s.heap.size ≤ q → A q := fun q h => by rw [← hAe]; exact Or.inr h
  have hS : va_S A s.heap s.heap [] := va_S.rf
  have hown : s.vm.findClass RX4 = some m.cls := hown
  have hl : lv_has ls 5 [(0, .ref (a 0)), (1, .int p1), (2, .int p2)] := hl
  unfold f_P_reachBeside at h
  have L_11 : ∀ (x1 : Int32) (x2 : Int32) (x3 : Int32) (n_11 : Nat) (x4 : Int32) (v_queued : Int32) (v_steps : (Nat → Int32)) (v_queue : (Nat → Int32)) (H : Heap) (locs : List Loc) (hP : va_P D vwCl [(a 0, .inr (3, [.ref (a 1), .ref (a 2), .int v_queued])), (a 1, .inl (cy 0, 720, .inl v_steps)), (a 2, .inl (cy 0, 720, .inl v_queue))] H) (hD : va_D A [(a 0, .inr (3, [.ref (a 1), .ref (a 2), .int v_queued])), (a 1, .inl (cy 0, 720, .inl v_steps)), (a 2, .inl (cy 0, 720, .inl v_queue))]) (hS : va_S A s.heap H locs) (ls : Array Slot) (hl : lv_has ls 5 [(0, .ref (a 0)), (1, .int x1), (2, .int x2), (3, .int x3), (4, .int x4)]) (h : it4 (bd_P_reachBeside_11 x1 x2 x3) n_11 x4 v_queued v_steps v_queue = some u), W p l e rm_P_reachBeside s m [.ref (a 0), .int p1, .int p2].toArray below meth c H locs 0 0 Q (F0 m 11 ls []) := by
    intro x1 x2 x3 n_11
    induction n_11 with
    | zero => intro x4 v_queued v_steps v_queue H locs hP hD hS ls hl h; exact kk_no h
    | succ n_11 ih_11 =>
      intro x4 v_queued v_steps v_queue H locs hP hD hS ls hl h
      have h : bd_P_reachBeside_11 x1 x2 x3 (it4 (bd_P_reachBeside_11 x1 x2 x3) n_11) x4 v_queued v_steps v_queue = some u := h
      unfold bd_P_reachBeside_11 at h
      refine lv_iload hx hb dX4_reachBeside_11 (lv_at hl 4 rfl) ?_
      refine lv_bipush (v := 15) hx hb dX4_reachBeside_13 (by decide) ?_
      refine lv_icmp_ge (tgt := 55) hx hb dX4_reachBeside_15 (by decide) (fun c_15 => ?_) (fun c_15 => ?_)
      · have h := kk_t c_15 h
        exact kk_rwv (wf := wo_P_reachBeside cy a) hx hb hr hlocks h hQ hP hD hS dX4_reachBeside_55
      · have h := kk_f c_15 h
        refine lv_iload_n hx hb dX4_reachBeside_18 rfl (lv_at hl 2 rfl) ?_
        refine lv_iload hx hb dX4_reachBeside_19 (lv_at hl 4 rfl) ?_
        refine lv_ishr hx hb dX4_reachBeside_21 ?_
        refine lv_iconst (v := 1) hx hb dX4_reachBeside_22 (by decide) ?_
        refine lv_iand hx hb dX4_reachBeside_23 ?_
        refine lv_iconst (v := 1) hx hb dX4_reachBeside_24 (by decide) ?_
        refine lv_icmp_ne (tgt := 49) hx hb dX4_reachBeside_25 (by decide) (fun c_25 => ?_) (fun c_25 => ?_)
        · have h := kk_f c_25 h
          refine lv_iinc (v := x4 + 1) (lv' := [(4, .int (x4 + 1)), (0, .ref (a 0)), (1, .int x1), (2, .int x2), (3, .int x3)]) hx hb dX4_reachBeside_49 hl (k := 4) rfl rfl (by decide) rfl (fun ls hl => ?_)
          refine lv_goto (tgt := 11) hx hb dX4_reachBeside_52 (by decide) ?_
          exact ih_11 (x4 + 1) v_queued v_steps v_queue _ _ hP hD hS _ (lv_sub hl [1, 2, 3, 4, 0] rfl) h
        · have h := kk_t c_25 h
          refine lv_aload_n hx hb dX4_reachBeside_28 rfl (lv_at hl 0 rfl) ?_
          refine lv_iload_n hx hb dX4_reachBeside_29 rfl (lv_at hl 1 rfl) ?_
          refine va_gets hx hb hX.1.1 hS hown (hts (.fieldLink RX4 41 "PeaCups$Paths" "ONE" "[I") (List.mem_of_getElem? (i := 1) rfl)) (fun _ h9 => h9) dX4_reachBeside_30 ?_
          refine lv_iload hx hb dX4_reachBeside_33 (lv_at hl 4 rfl) ?_
          obtain ⟨i_35, h⟩ := kk_x h
          refine va_ti hx hb hX.1.2 hS i_35 rfl dX4_reachBeside_35 ?_
          refine va_gets hx hb hX.2.1 hS hown (hts (.fieldLink RX4 44 "PeaCups$Paths" "OTHER" "[I") (List.mem_of_getElem? (i := 2) rfl)) (fun _ h9 => h9) dX4_reachBeside_36 ?_
          refine lv_iload hx hb dX4_reachBeside_39 (lv_at hl 4 rfl) ?_
          obtain ⟨i_41, h⟩ := kk_x h
          refine va_ti hx hb hX.2.2 hS i_41 rfl dX4_reachBeside_41 ?_
          obtain ⟨u_42, h_42, h⟩ := kk_b h
          refine kk_si (va_runS (As := [.int x1, .int (kk_ONE (x4 : Int32).toNatClampNeg), .int (kk_OTHER (x4 : Int32).toNatClampNeg)]) (rest := [.ref (a 0)]) ⟨hx, hb, hml, hown, hts⟩ (c_O_changed l x1 (kk_ONE (x4 : Int32).toNatClampNeg) (kk_OTHER (x4 : Int32).toNatClampNeg) u_42 h_42) (va_cwS 3 hts gX4_reachBeside_X2_changed rfl rfl rfl nd_O_changed ⟨Nat.le_of_ble_eq_true rfl, Nat.le_of_ble_eq_true rfl⟩) (kk_preS hE.2) rfl rfl hl.1 rfl (lv_room (Nat.le_of_ble_eq_true rfl)) dX4_reachBeside_42 ⟨Nat.zero_le _, Nat.zero_le _⟩) ?_
          refine lv_iload_n hx hb dX4_reachBeside_45 rfl (lv_at hl 3 rfl) ?_
          obtain ⟨u_46, h_46, h⟩ := kk_b h
          refine kk_wv (wn := [(a 0, .inr (3, [.ref (a 1), .ref (a 2), .int u_46.1])), (a 1, .inl (cy 0, 720, .inl u_46.2.1)), (a 2, .inl (cy 0, 720, .inl u_46.2.2))]) (va_runV (As := [.int u_42, .int x3]) (rest := []) ⟨hx, hb, hml, hown, hts⟩ (c_P_reach l D cy a _ u_42 x3 v_queued v_steps v_queue u_46 h_46) (cwV 2 hts gX4_reachBeside_X4_reach rfl rfl rfl nv_P_reach ⟨Nat.le_of_ble_eq_true rfl, Nat.le_of_ble_eq_true rfl⟩) (kk_preWV hE (hP.sub [0, 1, 2] rfl) (hD.sub [0, 1, 2] (by decide) rfl) (q0 := 0) (ci := 3) rfl rfl) rfl rfl hl.1 rfl (lv_room (Nat.le_of_ble_eq_true rfl)) dX4_reachBeside_46 ⟨Nat.zero_le _, Nat.zero_le _⟩) hP hD hS hA [0, 1, 2] [] [0, 1, 2] rfl rfl (by decide) (by decide) (by decide) rfl (fun H locs hP hD hS => ?_)
          refine lv_iinc (v := x4 + 1) (lv' := [(4, .int (x4 + 1)), (0, .ref (a 0)), (1, .int x1), (2, .int x2), (3, .int x3)]) hx hb dX4_reachBeside_49 hl (k := 4) rfl rfl (by decide) rfl (fun ls hl => ?_)
          refine lv_goto (tgt := 11) hx hb dX4_reachBeside_52 (by decide) ?_
          exact ih_11 (x4 + 1) u_46.1 u_46.2.1 u_46.2.2 _ _ hP hD hS _ (lv_sub hl [1, 2, 3, 4, 0] rfl) h
  refine lv_aload_n hx hb dX4_reachBeside_0 rfl (lv_at hl 0 rfl) ?_
  refine lv_iload_n hx hb dX4_reachBeside_1 rfl (lv_at hl 1 rfl) ?_
  obtain ⟨u_2, h_2, h⟩ := kk_b h
  refine kk_si (va_runV (As := [.int p1]) (rest := []) ⟨hx, hb, hml, hown, hts⟩ (c_P_stepsFrom l D cy a p1 v_queued v_steps v_queue u_2 h_2) (cwV 1 hts gX4_reachBeside_X4_stepsFrom rfl rfl rfl nv_P_stepsFrom ⟨Nat.le_of_ble_eq_true rfl, Nat.le_of_ble_eq_true rfl⟩) (kk_preRV hE (hP.sub [0, 1, 2] rfl) (q0 := 0) (ci := 3) rfl rfl) rfl rfl hl.1 rfl (lv_room (Nat.le_of_ble_eq_true rfl)) dX4_reachBeside_2 ⟨Nat.zero_le _, Nat.zero_le _⟩) ?_
  refine lv_iconst (v := 1) hx hb dX4_reachBeside_5 (by decide) ?_
  refine lv_iadd hx hb dX4_reachBeside_6 ?_
  refine lv_istore_n (lv' := [(3, .int (u_2 + 1)), (0, .ref (a 0)), (1, .int p1), (2, .int p2)]) hx hb dX4_reachBeside_7 rfl hl (by decide) rfl (fun ls hl => ?_)
  refine lv_iconst (v := 0) hx hb dX4_reachBeside_8 (by decide) ?_
  refine lv_istore (lv' := [(4, .int 0), (3, .int (u_2 + 1)), (0, .ref (a 0)), (1, .int p1), (2, .int p2)]) hx hb dX4_reachBeside_9 hl (by decide) rfl (fun ls hl => ?_)
  exact L_11 p1 p2 (u_2 + 1) _ 0 v_queued v_steps v_queue _ _ hP hD hS _ (lv_sub hl [2, 3, 4, 1, 0] rfl) h
abbrev rm_P_measure : Room := { frames := 4, cells := 0, slots := 0, locals := 92 }
theorem nv_P_measure : yX4_measure.cls = RX4 ∧ yX4_measure.cls ≠ "java/lang/invoke/MethodHandle" ∧ yX4_measure.cls ≠ "java/lang/invoke/VarHandle" ∧ (parseMethodDescriptor yX4_measure.desc).map (fun d => d.parameters.length) = some 3 := by decide +kernel
abbrev wo_P_measure (cy : Nat → Nat) (a : Nat → Nat) (u : Int32 × (Nat → Int32) × (Nat → Int32)) : va_W := [(a 0, .inr (3, [.ref (a 1), .ref (a 2), .int u.1])), (a 1, .inl (cy 0, 720, .inl u.2.1)), (a 2, .inl (cy 0, 720, .inl u.2.2))]
set_option maxHeartbeats 4000000 in
set_option maxRecDepth 100000 in
theorem c_P_measure (l : Launch) (D : va_G) (cy : Nat → Nat) (st : Nat → Nat) (a : Nat → Nat) (sz : Nat) (p1 : Int32) (p2 : Int32) (p3 : Int32) (v_queued : Int32) (v_steps : (Nat → Int32)) (v_queue : (Nat → Int32)) (u : Int32 × (Nat → Int32) × (Nat → Int32)) (h : f_P_measure p1 p2 p3 v_queued v_steps v_queue = some u) : Met l yX4_measure wsX4_measure rm_P_measure (kk_PWX D cy st [(a 0, .inr (3, [.ref (a 1), .ref (a 2), .int v_queued])), (a 1, .inl (cy 0, 720, .inl v_steps)), (a 2, .inl (cy 0, 720, .inl v_queue))] sz [.ref (a 0), .int p1, .int p2, .int p3]) (kk_Qv D (wo_P_measure cy a u) (va_A [(a 0, .inr (3, [.ref (a 1), .ref (a 2), .int v_queued])), (a 1, .inl (cy 0, 720, .inl v_steps)), (a 2, .inl (cy 0, 720, .inl v_queue))] sz)) 0 0 (va_A [(a 0, .inr (3, [.ref (a 1), .ref (a 2), .int v_queued])), (a 1, .inl (cy 0, 720, .inl v_steps)), (a 2, .inl (cy 0, 720, .inl v_queue))] sz) := by
  refine kk_met (cc := cX4_measure) (maxL := 5) (ret := none) (by decide) rfl (Nat.le_of_ble_eq_true rfl) ?_
  intro p e s m below meth c hx hb hr hml hts hown hlocks hB ls hl Q hQ
  obtain ⟨hsz, hP, hE, hD0, hX⟩ := hB
  subst hsz
  have hD := hD0.self (sz := s.heap.size)
  generalize hAe : va_A [(a 0, .inr (3, [.ref (a 1), .ref (a 2), .int v_queued])), (a 1, .inl (cy 0, 720, .inl v_steps)), (a 2, .inl (cy 0, 720, .inl v_queue))] s.heap.size = A at hD hQ hX
  have hA : ∀ q : Nat, s.heap.size ≤ q → A q := fun q h => by rw [← hAe]; exact Or.inr h
  have hS : va_S A s.heap s.heap [] := va_S.rf
  have hown : s.vm.findClass RX4 = some m.cls := hown
  have hl : lv_has ls 5 [(0, .ref (a 0)), (1, .int p1), (2, .int p2), (3, .int p3)] := hl
  unfold f_P_measure at h
  have L_23 : ∀ (x1 : Int32) (x3 : Int32) (n_23 : Nat) (x4 : Int32) (v_queued : Int32) (v_steps : (Nat → Int32)) (v_queue : (Nat → Int32)) (H : Heap) (locs : List Loc) (hP : va_P D vwCl [(a 0, .inr (3, [.ref (a 1), .ref (a 2), .int v_queued])), (a 1, .inl (cy 0, 720, .inl v_steps)), (a 2, .inl (cy 0, 720, .inl v_queue))] H) (hD : va_D A [(a 0, .inr (3, [.ref (a 1), .ref (a 2), .int v_queued])), (a 1, .inl (cy 0, 720, .inl v_steps)), (a 2, .inl (cy 0, 720, .inl v_queue))]) (hS : va_S A s.heap H locs) (ls : Array Slot) (hl : lv_has ls 5 [(0, .ref (a 0)), (1, .int x1), (3, .int x3), (4, .int x4)]) (h : it4 (bd_P_measure_23 x1 x3) n_23 x4 v_queued v_steps v_queue = some u), W p l e rm_P_measure s m [.ref (a 0), .int p1, .int p2, .int p3].toArray below meth c H locs 0 0 Q (F0 m 23 ls []) := by
    intro x1 x3 n_23
    induction n_23 with
    | zero => intro x4 v_queued v_steps v_queue H locs hP hD hS ls hl h; exact kk_no h
    | succ n_23 ih_23 =>
      intro x4 v_queued v_steps v_queue H locs hP hD hS ls hl h
      have h : bd_P_measure_23 x1 x3 (it4 (bd_P_measure_23 x1 x3) n_23) x4 v_queued v_steps v_queue = some u := h
      unfold bd_P_measure_23 at h
      refine lv_iload hx hb dX4_measure_23 (lv_at hl 3 rfl) ?_
      refine lv_sipush (v := 720) hx hb dX4_measure_25 (by decide) ?_
      refine lv_icmp_ge (tgt := 68) hx hb dX4_measure_28 (by decide) (fun c_28 => ?_) (fun c_28 => ?_)
      · have h := kk_t c_28 h
        exact kk_rwv (wf := wo_P_measure cy a) hx hb hr hlocks h hQ hP hD hS dX4_measure_68
      · have h := kk_f c_28 h
        refine lv_iload hx hb dX4_measure_31 (lv_at hl 3 rfl) ?_
        refine lv_aload_n hx hb dX4_measure_33 rfl (lv_at hl 0 rfl) ?_
        refine va_get (D := D) (ci := 3) (v := .int v_queued) (C := RX4) (T := TX4) (N := 3) hx hb hts (fun _ h9 => List.mem_cons_of_mem _ (List.mem_append_right _ h9)) hown hE.1 hP 0 rfl rfl 2 (by decide) (hts (.fieldLink RX4 26 "PeaCups$Paths" "queued" "I") (List.mem_of_getElem? (i := 2) rfl)) (fun _ h9 => h9) rfl dX4_measure_34 ?_
        refine lv_icmp_ge (tgt := 68) hx hb dX4_measure_37 (by decide) (fun c_37 => ?_) (fun c_37 => ?_)
        · have h := kk_t c_37 h
          exact kk_rwv (wf := wo_P_measure cy a) hx hb hr hlocks h hQ hP hD hS dX4_measure_68
        · have h := kk_f c_37 h
          refine lv_aload_n hx hb dX4_measure_40 rfl (lv_at hl 0 rfl) ?_
          refine lv_iload_n hx hb dX4_measure_41 rfl (lv_at hl 1 rfl) ?_
          obtain ⟨u_42, h_42, h⟩ := kk_b h
          refine kk_si (va_runV (As := [.int x1]) (rest := []) ⟨hx, hb, hml, hown, hts⟩ (c_P_stepsFrom l D cy a x1 v_queued v_steps v_queue u_42 h_42) (cwV 1 hts gX4_measure_X4_stepsFrom rfl rfl rfl nv_P_stepsFrom ⟨Nat.le_of_ble_eq_true rfl, Nat.le_of_ble_eq_true rfl⟩) (kk_preRV hE (hP.sub [0, 1, 2] rfl) (q0 := 0) (ci := 3) rfl rfl) rfl rfl hl.1 rfl (lv_room (Nat.le_of_ble_eq_true rfl)) dX4_measure_42 ⟨Nat.zero_le _, Nat.zero_le _⟩) ?_
          refine lv_bipush (v := (-6)) hx hb dX4_measure_45 (by decide) ?_
          refine lv_icmp_ne (tgt := 68) hx hb dX4_measure_47 (by decide) (fun c_47 => ?_) (fun c_47 => ?_)
          · have h := kk_f c_47 h
            exact kk_rwv (wf := wo_P_measure cy a) hx hb hr hlocks h hQ hP hD hS dX4_measure_68
          · have h := kk_t c_47 h
            refine lv_aload_n hx hb dX4_measure_50 rfl (lv_at hl 0 rfl) ?_
            refine lv_aload_n hx hb dX4_measure_51 rfl (lv_at hl 0 rfl) ?_
            refine va_get (D := D) (ci := 3) (v := .ref (a 2)) (C := RX4) (T := TX4) (N := 3) hx hb hts (fun _ h9 => List.mem_cons_of_mem _ (List.mem_append_right _ h9)) hown hE.1 hP 0 rfl rfl 1 (by decide) (hts (.fieldLink RX4 17 "PeaCups$Paths" "queue" "[I") (List.mem_of_getElem? (i := 3) rfl)) (fun _ h9 => h9) rfl dX4_measure_52 ?_
            refine lv_iload hx hb dX4_measure_55 (lv_at hl 3 rfl) ?_
            obtain ⟨i_57, h⟩ := kk_x h
            refine va_iald hx hb hE.1 hP 2 0 rfl rfl i_57 dX4_measure_57 ?_
            refine lv_iload_n hx hb dX4_measure_58 rfl (lv_at hl 2 rfl) ?_
            obtain ⟨u_59, h_59, h⟩ := kk_b h
            refine kk_wv (wn := [(a 0, .inr (3, [.ref (a 1), .ref (a 2), .int u_59.1])), (a 1, .inl (cy 0, 720, .inl u_59.2.1)), (a 2, .inl (cy 0, 720, .inl u_59.2.2))]) (va_runV (As := [.int (v_queue (x4 : Int32).toNatClampNeg), .int x3]) (rest := []) ⟨hx, hb, hml, hown, hts⟩ (c_P_reachBeside l D cy st a _ (v_queue (x4 : Int32).toNatClampNeg) x3 v_queued v_steps v_queue u_59 h_59) (cwV 2 hts gX4_measure_X4_reachBeside rfl rfl rfl nv_P_reachBeside ⟨Nat.le_of_ble_eq_true rfl, Nat.le_of_ble_eq_true rfl⟩) (kk_preWVX hE hX hS hD hA [0, 1, 2] rfl (hP.sub [0, 1, 2] rfl) (hD.sub [0, 1, 2] (by decide) rfl) (q0 := 0) (ci := 3) rfl rfl) rfl rfl hl.1 rfl (lv_room (Nat.le_of_ble_eq_true rfl)) dX4_measure_59 ⟨Nat.zero_le _, Nat.zero_le _⟩) hP hD hS hA [0, 1, 2] [] [0, 1, 2] rfl rfl (by decide) (by decide) (by decide) rfl (fun H locs hP hD hS => ?_)
            refine lv_iinc (v := x4 + 1) (lv' := [(4, .int (x4 + 1)), (0, .ref (a 0)), (1, .int x1), (3, .int x3)]) hx hb dX4_measure_62 hl (k := 3) rfl rfl (by decide) rfl (fun ls hl => ?_)
            refine lv_goto (tgt := 23) hx hb dX4_measure_65 (by decide) ?_
            exact ih_23 (x4 + 1) u_59.1 u_59.2.1 u_59.2.2 _ _ hP hD hS _ (lv_sub hl [1, 2, 3, 0] rfl) h
  refine lv_aload_n hx hb dX4_measure_0 rfl (lv_at hl 0 rfl) ?_
  refine va_get (D := D) (ci := 3) (v := .ref (a 1)) (C := RX4) (T := TX4) (N := 3) hx hb hts (fun _ h9 => List.mem_cons_of_mem _ (List.mem_append_right _ h9)) hown hE.1 hP 0 rfl rfl 0 (by decide) (hts (.fieldLink RX4 11 "PeaCups$Paths" "steps" "[I") (List.mem_of_getElem? (i := 1) rfl)) (fun _ h9 => h9) rfl dX4_measure_1 ?_
  refine lv_bipush (v := (-6)) hx hb dX4_measure_4 (by decide) ?_
  obtain ⟨u_6, h_6, h⟩ := kk_b h
  refine kk_wv (wn := [(a 0, .inr (3, [.ref (a 1), .ref (a 2), .int v_queued])), (a 1, .inl (cy 0, 720, .inl u_6)), (a 2, .inl (cy 0, 720, .inl v_queue))]) (va_runS (As := [.ref (a 1), .int (-6)]) (rest := []) ⟨hx, hb, hml, hown, hts⟩ (c_J_fill l D cy (fun k => a (k + 1)) _ (-6) v_steps u_6 h_6) (va_cwS 2 hts gX4_measure_J7_fill_53178 rfl rfl rfl nd_J_fill ⟨Nat.le_of_ble_eq_true rfl, Nat.le_of_ble_eq_true rfl⟩) (kk_preW hE (hP.sub [1] rfl) (hD.sub [1] (by decide) rfl)) rfl rfl hl.1 rfl (lv_room (Nat.le_of_ble_eq_true rfl)) dX4_measure_6 ⟨Nat.zero_le _, Nat.zero_le _⟩) hP hD hS hA [1] [0, 2] [0, 2, 1] rfl rfl (by decide) (by decide) (by decide) rfl (fun H locs hP hD hS => ?_)
  refine lv_aload_n hx hb dX4_measure_9 rfl (lv_at hl 0 rfl) ?_
  refine lv_iconst (v := 0) hx hb dX4_measure_10 (by decide) ?_
  refine va_put (D := D) (ci := 3) (v := .int 0) (ty := .int) (C := RX4) (T := TX4) (N := 3) hx hb hts (fun _ h9 => List.mem_cons_of_mem _ (List.mem_append_right _ h9)) tyX4 tyX4_ok nmX4 hown hE.1 hP hD hS 0 rfl rfl 2 (by decide) (hts (.fieldLink RX4 26 "PeaCups$Paths" "queued" "I") (List.mem_of_getElem? (i := 2) rfl)) (fun _ h9 => h9) rfl (by decide +kernel) rfl rfl (Nat.le_of_ble_eq_true rfl) dX4_measure_11 (fun H locs hP hD hS => ?_)
  have hP : va_P D vwCl [(a 0, .inr (3, [.ref (a 1), .ref (a 2), .int 0])), (a 1, .inl (cy 0, 720, .inl u_6)), (a 2, .inl (cy 0, 720, .inl v_queue))] H := hP
  have hD : va_D A [(a 0, .inr (3, [.ref (a 1), .ref (a 2), .int 0])), (a 1, .inl (cy 0, 720, .inl u_6)), (a 2, .inl (cy 0, 720, .inl v_queue))] := hD
  refine lv_aload_n hx hb dX4_measure_14 rfl (lv_at hl 0 rfl) ?_
  refine lv_iload_n hx hb dX4_measure_15 rfl (lv_at hl 2 rfl) ?_
  refine lv_iconst (v := 0) hx hb dX4_measure_16 (by decide) ?_
  obtain ⟨u_17, h_17, h⟩ := kk_b h
  refine kk_wv (wn := [(a 0, .inr (3, [.ref (a 1), .ref (a 2), .int u_17.1])), (a 1, .inl (cy 0, 720, .inl u_17.2.1)), (a 2, .inl (cy 0, 720, .inl u_17.2.2))]) (va_runV (As := [.int p2, .int 0]) (rest := []) ⟨hx, hb, hml, hown, hts⟩ (c_P_reach l D cy a _ p2 0 0 u_6 v_queue u_17 h_17) (cwV 2 hts gX4_measure_X4_reach rfl rfl rfl nv_P_reach ⟨Nat.le_of_ble_eq_true rfl, Nat.le_of_ble_eq_true rfl⟩) (kk_preWV hE (hP.sub [0, 1, 2] rfl) (hD.sub [0, 1, 2] (by decide) rfl) (q0 := 0) (ci := 3) rfl rfl) rfl rfl hl.1 rfl (lv_room (Nat.le_of_ble_eq_true rfl)) dX4_measure_17 ⟨Nat.zero_le _, Nat.zero_le _⟩) hP hD hS hA [0, 1, 2] [] [0, 1, 2] rfl rfl (by decide) (by decide) (by decide) rfl (fun H locs hP hD hS => ?_)
  refine lv_iconst (v := 0) hx hb dX4_measure_20 (by decide) ?_
  refine lv_istore (lv' := [(4, .int 0), (0, .ref (a 0)), (1, .int p1), (2, .int p2), (3, .int p3)]) hx hb dX4_measure_21 hl (by decide) rfl (fun ls hl => ?_)
  exact L_23 p1 p3 _ 0 u_17.1 u_17.2.1 u_17.2.2 _ _ hP hD hS _ (lv_sub hl [1, 2, 4, 0] rfl) h
abbrev rm_P_pairFrom : Room := { frames := 3, cells := 0, slots := 0, locals := 67 }
theorem nv_P_pairFrom : yX4_pairFrom.cls = RX4 ∧ yX4_pairFrom.cls ≠ "java/lang/invoke/MethodHandle" ∧ yX4_pairFrom.cls ≠ "java/lang/invoke/VarHandle" ∧ (parseMethodDescriptor yX4_pairFrom.desc).map (fun d => d.parameters.length) = some 2 := by decide +kernel
set_option maxHeartbeats 4000000 in
set_option maxRecDepth 100000 in
theorem c_P_pairFrom (l : Launch) (D : va_G) (cy : Nat → Nat) (st : Nat → Nat) (a : Nat → Nat) (p1 : Int32) (p2 : Int32) (v_queued : Int32) (v_steps : (Nat → Int32)) (v_queue : (Nat → Int32)) (u : Int32) (h : f_P_pairFrom p1 p2 v_steps = some u) : Met l yX4_pairFrom wsX4_pairFrom rm_P_pairFrom (kk_PRX D cy st [(a 0, .inr (3, [.ref (a 1), .ref (a 2), .int v_queued])), (a 1, .inl (cy 0, 720, .inl v_steps)), (a 2, .inl (cy 0, 720, .inl v_queue))] [.ref (a 0), .int p1, .int p2]) (vp_Si (fun r => r = u)) 0 0 (fun _ => False) := by
  refine kk_met (cc := cX4_pairFrom) (maxL := 5) (ret := some .int) (by decide) rfl (Nat.le_of_ble_eq_true rfl) ?_
  intro p e s m below meth c hx hb hr hml hts hown hlocks hB ls hl Q hQ
  obtain ⟨hP, hE, hX⟩ := hB
  have hown : s.vm.findClass RX4 = some m.cls := hown
  have hl : lv_has ls 5 [(0, .ref (a 0)), (1, .int p1), (2, .int p2)] := hl
  unfold f_P_pairFrom at h
  have L_17 : ∀ (x1 : Int32) (x2 : Int32) (x3 : Int32) (n_17 : Nat) (x4 : Int32) (ls : Array Slot) (hl : lv_has ls 5 [(0, .ref (a 0)), (1, .int x1), (2, .int x2), (3, .int x3), (4, .int x4)]) (h : it1 (bd_P_pairFrom_17 x1 x2 x3 v_steps) n_17 x4 = some u), W p l e rm_P_pairFrom s m [.ref (a 0), .int p1, .int p2].toArray below meth c s.heap [] 0 0 Q (F0 m 17 ls []) := by
    intro x1 x2 x3 n_17
    induction n_17 with
    | zero => intro x4 ls hl h; exact kk_no h
    | succ n_17 ih_17 =>
      intro x4 ls hl h
      have h : bd_P_pairFrom_17 x1 x2 x3 v_steps (it1 (bd_P_pairFrom_17 x1 x2 x3 v_steps) n_17) x4 = some u := h
      unfold bd_P_pairFrom_17 at h
      refine lv_iload hx hb dX4_pairFrom_17 (lv_at hl 4 rfl) ?_
      refine lv_bipush (v := 15) hx hb dX4_pairFrom_19 (by decide) ?_
      refine lv_icmp_ge (tgt := 69) hx hb dX4_pairFrom_21 (by decide) (fun c_21 => ?_) (fun c_21 => ?_)
      · have h := kk_t c_21 h
        refine lv_bipush (v := (-6)) hx hb dX4_pairFrom_69 (by decide) ?_
        exact kk_ri hx hb hr hlocks hQ h dX4_pairFrom_71
      · have h := kk_f c_21 h
        refine lv_iload_n hx hb dX4_pairFrom_24 rfl (lv_at hl 2 rfl) ?_
        refine lv_iload hx hb dX4_pairFrom_25 (lv_at hl 4 rfl) ?_
        refine lv_ishr hx hb dX4_pairFrom_27 ?_
        refine lv_iconst (v := 1) hx hb dX4_pairFrom_28 (by decide) ?_
        refine lv_iand hx hb dX4_pairFrom_29 ?_
        refine lv_iconst (v := 1) hx hb dX4_pairFrom_30 (by decide) ?_
        refine lv_icmp_ne (tgt := 63) hx hb dX4_pairFrom_31 (by decide) (fun c_31 => ?_) (fun c_31 => ?_)
        · have h := kk_f c_31 h
          refine lv_iinc (v := x4 + 1) (lv' := [(4, .int (x4 + 1)), (0, .ref (a 0)), (1, .int x1), (2, .int x2), (3, .int x3)]) hx hb dX4_pairFrom_63 hl (k := 4) rfl rfl (by decide) rfl (fun ls hl => ?_)
          refine lv_goto (tgt := 17) hx hb dX4_pairFrom_66 (by decide) ?_
          exact ih_17 (x4 + 1) _ (lv_sub hl [1, 2, 3, 4, 0] rfl) h
        · have h := kk_t c_31 h
          refine lv_aload_n hx hb dX4_pairFrom_34 rfl (lv_at hl 0 rfl) ?_
          refine lv_iload_n hx hb dX4_pairFrom_35 rfl (lv_at hl 1 rfl) ?_
          refine va_gets hx hb hX.1.1 va_S.rf hown (hts (.fieldLink RX4 41 "PeaCups$Paths" "ONE" "[I") (List.mem_of_getElem? (i := 1) rfl)) (fun _ h9 => h9) dX4_pairFrom_36 ?_
          refine lv_iload hx hb dX4_pairFrom_39 (lv_at hl 4 rfl) ?_
          obtain ⟨i_41, h⟩ := kk_x h
          refine va_ti hx hb hX.1.2 va_S.rf i_41 rfl dX4_pairFrom_41 ?_
          refine va_gets hx hb hX.2.1 va_S.rf hown (hts (.fieldLink RX4 44 "PeaCups$Paths" "OTHER" "[I") (List.mem_of_getElem? (i := 2) rfl)) (fun _ h9 => h9) dX4_pairFrom_42 ?_
          refine lv_iload hx hb dX4_pairFrom_45 (lv_at hl 4 rfl) ?_
          obtain ⟨i_47, h⟩ := kk_x h
          refine va_ti hx hb hX.2.2 va_S.rf i_47 rfl dX4_pairFrom_47 ?_
          obtain ⟨u_48, h_48, h⟩ := kk_b h
          refine kk_si (va_runS (As := [.int x1, .int (kk_ONE (x4 : Int32).toNatClampNeg), .int (kk_OTHER (x4 : Int32).toNatClampNeg)]) (rest := [.ref (a 0)]) ⟨hx, hb, hml, hown, hts⟩ (c_O_changed l x1 (kk_ONE (x4 : Int32).toNatClampNeg) (kk_OTHER (x4 : Int32).toNatClampNeg) u_48 h_48) (va_cwS 3 hts gX4_pairFrom_X2_changed rfl rfl rfl nd_O_changed ⟨Nat.le_of_ble_eq_true rfl, Nat.le_of_ble_eq_true rfl⟩) (kk_preS hE.2) rfl rfl hl.1 rfl (lv_room (Nat.le_of_ble_eq_true rfl)) dX4_pairFrom_48 ⟨Nat.zero_le _, Nat.zero_le _⟩) ?_
          obtain ⟨u_51, h_51, h⟩ := kk_b h
          refine kk_si (va_runV (As := [.int u_48]) (rest := []) ⟨hx, hb, hml, hown, hts⟩ (c_P_stepsFrom l D cy a u_48 v_queued v_steps v_queue u_51 h_51) (cwV 1 hts gX4_pairFrom_X4_stepsFrom rfl rfl rfl nv_P_stepsFrom ⟨Nat.le_of_ble_eq_true rfl, Nat.le_of_ble_eq_true rfl⟩) (kk_preRV hE (hP.sub [0, 1, 2] rfl) (q0 := 0) (ci := 3) rfl rfl) rfl rfl hl.1 rfl (lv_room (Nat.le_of_ble_eq_true rfl)) dX4_pairFrom_51 ⟨Nat.zero_le _, Nat.zero_le _⟩) ?_
          refine lv_iload_n hx hb dX4_pairFrom_54 rfl (lv_at hl 3 rfl) ?_
          refine lv_iconst (v := 1) hx hb dX4_pairFrom_55 (by decide) ?_
          refine lv_isub hx hb dX4_pairFrom_56 ?_
          refine lv_icmp_ne (tgt := 63) hx hb dX4_pairFrom_57 (by decide) (fun c_57 => ?_) (fun c_57 => ?_)
          · have h := kk_f c_57 h
            refine lv_iinc (v := x4 + 1) (lv' := [(4, .int (x4 + 1)), (0, .ref (a 0)), (1, .int x1), (2, .int x2), (3, .int x3)]) hx hb dX4_pairFrom_63 hl (k := 4) rfl rfl (by decide) rfl (fun ls hl => ?_)
            refine lv_goto (tgt := 17) hx hb dX4_pairFrom_66 (by decide) ?_
            exact ih_17 (x4 + 1) _ (lv_sub hl [1, 2, 3, 4, 0] rfl) h
          · have h := kk_t c_57 h
            refine lv_iload hx hb dX4_pairFrom_60 (lv_at hl 4 rfl) ?_
            exact kk_ri hx hb hr hlocks hQ h dX4_pairFrom_62
  refine lv_aload_n hx hb dX4_pairFrom_0 rfl (lv_at hl 0 rfl) ?_
  refine lv_iload_n hx hb dX4_pairFrom_1 rfl (lv_at hl 1 rfl) ?_
  obtain ⟨u_2, h_2, h⟩ := kk_b h
  refine kk_si (va_runV (As := [.int p1]) (rest := []) ⟨hx, hb, hml, hown, hts⟩ (c_P_stepsFrom l D cy a p1 v_queued v_steps v_queue u_2 h_2) (cwV 1 hts gX4_pairFrom_X4_stepsFrom rfl rfl rfl nv_P_stepsFrom ⟨Nat.le_of_ble_eq_true rfl, Nat.le_of_ble_eq_true rfl⟩) (kk_preRV hE (hP.sub [0, 1, 2] rfl) (q0 := 0) (ci := 3) rfl rfl) rfl rfl hl.1 rfl (lv_room (Nat.le_of_ble_eq_true rfl)) dX4_pairFrom_2 ⟨Nat.zero_le _, Nat.zero_le _⟩) ?_
  refine lv_istore_n (lv' := [(3, .int u_2), (0, .ref (a 0)), (1, .int p1), (2, .int p2)]) hx hb dX4_pairFrom_5 rfl hl (by decide) rfl (fun ls hl => ?_)
  refine lv_iload_n hx hb dX4_pairFrom_6 rfl (lv_at hl 0 rfl) ?_
  refine lv_iconst (v := 1) hx hb dX4_pairFrom_7 (by decide) ?_
  refine lv_icmp_ge (tgt := 14) hx hb dX4_pairFrom_8 (by decide) (fun c_8 => ?_) (fun c_8 => ?_)
  · have h := kk_t c_8 h
    refine lv_iconst (v := 0) hx hb dX4_pairFrom_14 (by decide) ?_
    refine lv_istore (lv' := [(4, .int 0), (3, .int u_2), (0, .ref (a 0)), (1, .int p1), (2, .int p2)]) hx hb dX4_pairFrom_15 hl (by decide) rfl (fun ls hl => ?_)
    exact L_17 p1 p2 u_2 _ 0 _ (lv_sub hl [2, 3, 4, 1, 0] rfl) h
  · have h := kk_f c_8 h
    refine lv_bipush (v := (-6)) hx hb dX4_pairFrom_11 (by decide) ?_
    exact kk_ri hx hb hr hlocks hQ h dX4_pairFrom_13
