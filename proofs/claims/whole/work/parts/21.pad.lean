abbrev rm_D_isLetter : Room := { frames := 0, cells := 0, slots := 0, locals := 0 }
theorem nd_D_isLetter : yX3_isLetter.cls ≠ "java/lang/invoke/MethodHandle" ∧ yX3_isLetter.cls ≠ "java/lang/invoke/VarHandle" ∧ (parseMethodDescriptor yX3_isLetter.desc).map (fun d => d.parameters.length) = some 1 := by decide +kernel
set_option maxHeartbeats 4000000 in
set_option maxRecDepth 100000 in
theorem c_D_isLetter (l : Launch) (p0 : Int32) (u : Int32) (h : f_D_isLetter p0 = some u) : Met l yX3_isLetter wsX3_isLetter rm_D_isLetter (kk_PS [.int p0]) (vp_Si (fun r => r = u)) 0 0 (fun _ => False) := by
  refine kk_met (cc := cX3_isLetter) (maxL := 1) (ret := some .boolean) (by decide) rfl (Nat.le_of_ble_eq_true rfl) ?_
  intro p e s m below meth c hx hb hr hml hts hown hlocks hB ls hl Q hQ
  have hN := hB
  have hown : s.vm.findClass RX3 = some m.cls := hown
  have hl : lv_has ls 1 [(0, .int p0)] := hl
  unfold f_D_isLetter at h
  refine lv_iload_n hx hb dX3_isLetter_0 rfl (lv_at hl 0 rfl) ?_
  refine lv_bipush (v := 65) hx hb dX3_isLetter_1 (by decide) ?_
  refine lv_icmp_lt (tgt := 16) hx hb dX3_isLetter_3 (by decide) (fun c_3 => ?_) (fun c_3 => ?_)
  · have h := kk_t c_3 h
    refine lv_iconst (v := 0) hx hb dX3_isLetter_16 (by decide) ?_
    exact kk_rz hx hb hr hlocks hQ rfl h dX3_isLetter_17
  · have h := kk_f c_3 h
    refine lv_iload_n hx hb dX3_isLetter_6 rfl (lv_at hl 0 rfl) ?_
    refine lv_bipush (v := 69) hx hb dX3_isLetter_7 (by decide) ?_
    refine lv_icmp_ge (tgt := 16) hx hb dX3_isLetter_9 (by decide) (fun c_9 => ?_) (fun c_9 => ?_)
    · have h := kk_t c_9 h
      refine lv_iconst (v := 0) hx hb dX3_isLetter_16 (by decide) ?_
      exact kk_rz hx hb hr hlocks hQ rfl h dX3_isLetter_17
    · have h := kk_f c_9 h
      refine lv_iconst (v := 1) hx hb dX3_isLetter_12 (by decide) ?_
      refine lv_goto (tgt := 17) hx hb dX3_isLetter_13 (by decide) ?_
      exact kk_rz hx hb hr hlocks hQ rfl h dX3_isLetter_17
abbrev rm_D_lengthOf : Room := { frames := 1, cells := 0, slots := 0, locals := 20 }
theorem nd_D_lengthOf : yX3_lengthOf.cls ≠ "java/lang/invoke/MethodHandle" ∧ yX3_lengthOf.cls ≠ "java/lang/invoke/VarHandle" ∧ (parseMethodDescriptor yX3_lengthOf.desc).map (fun d => d.parameters.length) = some 1 := by decide +kernel
set_option maxHeartbeats 4000000 in
set_option maxRecDepth 100000 in
theorem c_D_lengthOf (l : Launch) (p0 : Int32) (u : Int32) (h : f_D_lengthOf p0 = some u) : Met l yX3_lengthOf wsX3_lengthOf rm_D_lengthOf (kk_PS [.int p0]) (vp_Si (fun r => r = u)) 0 0 (fun _ => False) := by
  refine kk_met (cc := cX3_lengthOf) (maxL := 1) (ret := some .int) (by decide) rfl (Nat.le_of_ble_eq_true rfl) ?_
  intro p e s m below meth c hx hb hr hml hts hown hlocks hB ls hl Q hQ
  have hN := hB
  have hown : s.vm.findClass RX3 = some m.cls := hown
  have hl : lv_has ls 1 [(0, .int p0)] := hl
  unfold f_D_lengthOf at h
  refine lv_iload_n hx hb dX3_lengthOf_0 rfl (lv_at hl 0 rfl) ?_
  by_cases c_1_0 : p0 = 46
  · have h := kk_t c_1_0 h
    refine lv_lookup (off := 47) (tgt := 48) hx hb dX3_lengthOf_1 (by decide) (by rw [c_1_0]; decide) (by decide) ?_
    refine lv_iconst (v := 1) hx hb dX3_lengthOf_48 (by decide) ?_
    exact kk_ri hx hb hr hlocks hQ h dX3_lengthOf_49
  · have h := kk_f c_1_0 h
    by_cases c_1_1 : p0 = 104
    · have h := kk_t c_1_1 h
      refine lv_lookup (off := 45) (tgt := 46) hx hb dX3_lengthOf_1 (by decide) (by rw [c_1_1]; decide) (by decide) ?_
      refine lv_iconst (v := 2) hx hb dX3_lengthOf_46 (by decide) ?_
      exact kk_ri hx hb hr hlocks hQ h dX3_lengthOf_47
    · have h := kk_f c_1_1 h
      by_cases c_1_2 : p0 = 108
      · have h := kk_t c_1_2 h
        refine lv_lookup (off := 45) (tgt := 46) hx hb dX3_lengthOf_1 (by decide) (by rw [c_1_2]; decide) (by decide) ?_
        refine lv_iconst (v := 2) hx hb dX3_lengthOf_46 (by decide) ?_
        exact kk_ri hx hb hr hlocks hQ h dX3_lengthOf_47
      · have h := kk_f c_1_2 h
        by_cases c_1_3 : p0 = 115
        · have h := kk_t c_1_3 h
          refine lv_lookup (off := 43) (tgt := 44) hx hb dX3_lengthOf_1 (by decide) (by rw [c_1_3]; decide) (by decide) ?_
          refine lv_iconst (v := 4) hx hb dX3_lengthOf_44 (by decide) ?_
          exact kk_ri hx hb hr hlocks hQ h dX3_lengthOf_45
        · have h := kk_f c_1_3 h
          refine lv_lookup (off := 49) (tgt := 50) hx hb dX3_lengthOf_1 (by decide) (by first | rfl | (show Op.lookupswitch.offset [(46, 47), (104, 45), (108, 45), (115, 43)] _ _ = _; rw [lv_osw c_1_0 (by decide), lv_osw c_1_1 (by decide), lv_osw c_1_2 (by decide), lv_osw c_1_3 (by decide)]; rfl)) (by decide) ?_
          refine lv_iload_n hx hb dX3_lengthOf_50 rfl (lv_at hl 0 rfl) ?_
          obtain ⟨u_51, h_51, h⟩ := kk_b h
          refine kk_si (va_runS (As := [.int p0]) (rest := []) ⟨hx, hb, hml, hown, hts⟩ (c_D_isLetter l p0 u_51 h_51) (va_cwS 1 hts gX3_lengthOf_X3_isLetter rfl rfl rfl nd_D_isLetter ⟨Nat.le_of_ble_eq_true rfl, Nat.le_of_ble_eq_true rfl⟩) (kk_preS hN) rfl rfl hl.1 rfl (lv_room (Nat.le_of_ble_eq_true rfl)) dX3_lengthOf_51 ⟨Nat.zero_le _, Nat.zero_le _⟩) ?_
          refine lv_if_eq (tgt := 61) hx hb dX3_lengthOf_54 (by decide) (fun c_54 => ?_) (fun c_54 => ?_)
          · have h := kk_t c_54 h
            refine lv_iconst (v := 0) hx hb dX3_lengthOf_61 (by decide) ?_
            exact kk_ri hx hb hr hlocks hQ h dX3_lengthOf_62
          · have h := kk_f c_54 h
            refine lv_iconst (v := 3) hx hb dX3_lengthOf_57 (by decide) ?_
            refine lv_goto (tgt := 62) hx hb dX3_lengthOf_58 (by decide) ?_
            exact kk_ri hx hb hr hlocks hQ h dX3_lengthOf_62
abbrev rm_D_isFitting : Room := { frames := 1, cells := 0, slots := 0, locals := 22 }
theorem nd_D_isFitting : yX3_isFitting.cls ≠ "java/lang/invoke/MethodHandle" ∧ yX3_isFitting.cls ≠ "java/lang/invoke/VarHandle" ∧ (parseMethodDescriptor yX3_isFitting.desc).map (fun d => d.parameters.length) = some 3 := by decide +kernel
set_option maxHeartbeats 4000000 in
set_option maxRecDepth 100000 in
theorem c_D_isFitting (l : Launch) (p0 : Int32) (p1 : Int32) (p2 : Int32) (u : Int32) (h : f_D_isFitting p0 p1 p2 = some u) : Met l yX3_isFitting wsX3_isFitting rm_D_isFitting (kk_PS [.int p0, .int p1, .int p2]) (vp_Si (fun r => r = u)) 0 0 (fun _ => False) := by
  refine kk_met (cc := cX3_isFitting) (maxL := 4) (ret := some .boolean) (by decide) rfl (Nat.le_of_ble_eq_true rfl) ?_
  intro p e s m below meth c hx hb hr hml hts hown hlocks hB ls hl Q hQ
  have hN := hB
  have hown : s.vm.findClass RX3 = some m.cls := hown
  have hl : lv_has ls 4 [(0, .int p0), (1, .int p1), (2, .int p2)] := hl
  unfold f_D_isFitting at h
  have J_17 : ∀ (x0 : Int32) (y0 : Int32) (ls : Array Slot) (hl : lv_has ls 4 [(0, .int x0)]) (h : jn_D_isFitting_17 x0 y0 = some u), W p l e rm_D_isFitting s m [.int p0, .int p1, .int p2].toArray below meth c s.heap [] 0 0 Q (F0 m 17 ls [.int y0]) := by
    intro x0 y0 ls hl h
    unfold jn_D_isFitting_17 at h
    refine lv_istore_n (lv' := [(3, .int y0), (0, .int x0)]) hx hb dX3_isFitting_17 rfl hl (by decide) rfl (fun ls hl => ?_)
    refine lv_iload_n hx hb dX3_isFitting_18 rfl (lv_at hl 0 rfl) ?_
    refine lv_if_eq (tgt := 33) hx hb dX3_isFitting_19 (by decide) (fun c_19 => ?_) (fun c_19 => ?_)
    · have h := kk_t c_19 h
      refine lv_iload_n hx hb dX3_isFitting_33 rfl (lv_at hl 1 rfl) ?_
      refine lv_bipush (v := 48) hx hb dX3_isFitting_34 (by decide) ?_
      refine lv_bipush (v := 53) hx hb dX3_isFitting_36 (by decide) ?_
      obtain ⟨u_38, h_38, h⟩ := kk_b h
      refine kk_si (va_runSN (As := [.int x0, .int 48, .int 53]) (rest := []) ⟨hx, hb, hml, hown, hts⟩ (c_C_isWithin l x0 48 53 u_38 h_38) ⟨va_cnB 3 hts ggX3_isFitting_X9_isWithin rfl rfl rfl (hN _ (List.mem_of_getElem? (i := 13) rfl)) (hts (.initialized RX9) (List.mem_of_getElem? (i := 2) rfl)) nd_C_isWithin ⟨Nat.le_of_ble_eq_true rfl, Nat.le_of_ble_eq_true rfl⟩, (hts (.static yX9_isWithin) (List.mem_of_getElem? (i := 1) rfl)), trivial⟩ (kk_preS hN) rfl rfl hl.1 rfl (lv_room (Nat.le_of_ble_eq_true rfl)) dX3_isFitting_38 ⟨Nat.zero_le _, Nat.zero_le _⟩) ?_
      obtain ⟨b_41, h⟩ := kk_bz h
      exact kk_rz hx hb hr hlocks hQ b_41 h dX3_isFitting_41
    · have h := kk_f c_19 h
      refine lv_iload_n hx hb dX3_isFitting_22 rfl (lv_at hl 1 rfl) ?_
      refine lv_bipush (v := 49) hx hb dX3_isFitting_23 (by decide) ?_
      refine lv_bipush (v := 57) hx hb dX3_isFitting_25 (by decide) ?_
      obtain ⟨u_27, h_27, h⟩ := kk_b h
      refine kk_si (va_runSN (As := [.int x0, .int 49, .int 57]) (rest := []) ⟨hx, hb, hml, hown, hts⟩ (c_C_isWithin l x0 49 57 u_27 h_27) ⟨va_cnB 3 hts ggX3_isFitting_X9_isWithin rfl rfl rfl (hN _ (List.mem_of_getElem? (i := 13) rfl)) (hts (.initialized RX9) (List.mem_of_getElem? (i := 2) rfl)) nd_C_isWithin ⟨Nat.le_of_ble_eq_true rfl, Nat.le_of_ble_eq_true rfl⟩, (hts (.static yX9_isWithin) (List.mem_of_getElem? (i := 1) rfl)), trivial⟩ (kk_preS hN) rfl rfl hl.1 rfl (lv_room (Nat.le_of_ble_eq_true rfl)) dX3_isFitting_27 ⟨Nat.zero_le _, Nat.zero_le _⟩) ?_
      refine lv_goto (tgt := 41) hx hb dX3_isFitting_30 (by decide) ?_
      obtain ⟨b_41, h⟩ := kk_bz h
      exact kk_rz hx hb hr hlocks hQ b_41 h dX3_isFitting_41
  have J_16 : ∀ (x0 : Int32) (ls : Array Slot) (hl : lv_has ls 4 [(0, .int x0)]) (h : jn_D_isFitting_16 x0 = some u), W p l e rm_D_isFitting s m [.int p0, .int p1, .int p2].toArray below meth c s.heap [] 0 0 Q (F0 m 16 ls []) := by
    intro x0 ls hl h
    unfold jn_D_isFitting_16 at h
    refine lv_iconst (v := 0) hx hb dX3_isFitting_16 (by decide) ?_
    exact J_17 x0 0 _ (lv_sub hl [0] rfl) h
  refine lv_iload_n hx hb dX3_isFitting_0 rfl (lv_at hl 2 rfl) ?_
  refine lv_iconst (v := 2) hx hb dX3_isFitting_1 (by decide) ?_
  refine lv_icmp_le (tgt := 16) hx hb dX3_isFitting_2 (by decide) (fun c_2 => ?_) (fun c_2 => ?_)
  · have h := kk_t c_2 h
    exact J_16 p0 _ (lv_sub hl [0] rfl) h
  · have h := kk_f c_2 h
    refine lv_iload_n hx hb dX3_isFitting_5 rfl (lv_at hl 1 rfl) ?_
    refine lv_iload_n hx hb dX3_isFitting_6 rfl (lv_at hl 2 rfl) ?_
    refine lv_iconst (v := 1) hx hb dX3_isFitting_7 (by decide) ?_
    refine lv_isub hx hb dX3_isFitting_8 ?_
    refine lv_icmp_ne (tgt := 16) hx hb dX3_isFitting_9 (by decide) (fun c_9 => ?_) (fun c_9 => ?_)
    · have h := kk_f c_9 h
      exact J_16 p0 _ (lv_sub hl [0] rfl) h
    · have h := kk_t c_9 h
      refine lv_iconst (v := 1) hx hb dX3_isFitting_12 (by decide) ?_
      refine lv_goto (tgt := 17) hx hb dX3_isFitting_13 (by decide) ?_
      exact J_17 p0 1 _ (lv_sub hl [0] rfl) h
abbrev rm_D_faultPlace : Room := { frames := 2, cells := 0, slots := 0, locals := 45 }
theorem nv_D_faultPlace : yX3_faultPlace.cls = RX3 ∧ yX3_faultPlace.cls ≠ "java/lang/invoke/MethodHandle" ∧ yX3_faultPlace.cls ≠ "java/lang/invoke/VarHandle" ∧ (parseMethodDescriptor yX3_faultPlace.desc).map (fun d => d.parameters.length) = some 0 := by decide +kernel
set_option maxHeartbeats 4000000 in
set_option maxRecDepth 100000 in
theorem c_D_faultPlace (l : Launch) (D : va_G) (cy : Nat → Nat) (a : Nat → Nat) (v_count : Int32) (v_signs : (Nat → Int32)) (u : Int32) (h : f_D_faultPlace v_count v_signs = some u) : Met l yX3_faultPlace wsX3_faultPlace rm_D_faultPlace (kk_PR D cy [(a 0, .inr (2, [.ref (a 1), .int v_count])), (a 1, .inl (cy 0, 60, .inl v_signs))] [.ref (a 0)]) (vp_Si (fun r => r = u)) 0 0 (fun _ => False) := by
  refine kk_met (cc := cX3_faultPlace) (maxL := 6) (ret := some .int) (by decide) rfl (Nat.le_of_ble_eq_true rfl) ?_
  intro p e s m below meth c hx hb hr hml hts hown hlocks hB ls hl Q hQ
  obtain ⟨hP, hE⟩ := hB
  have hown : s.vm.findClass RX3 = some m.cls := hown
  have hl : lv_has ls 6 [(0, .ref (a 0))] := hl
  unfold f_D_faultPlace at h
  have J_85 : ∀ (x2 : Int32) (ls : Array Slot) (hl : lv_has ls 6 [(0, .ref (a 0)), (2, .int x2)]) (h : jn_D_faultPlace_85 x2 v_count v_signs = some u), W p l e rm_D_faultPlace s m [.ref (a 0)].toArray below meth c s.heap [] 0 0 Q (F0 m 85 ls []) := by
    intro x2 ls hl h
    unfold jn_D_faultPlace_85 at h
    refine lv_iload_n hx hb dX3_faultPlace_85 rfl (lv_at hl 1 rfl) ?_
    refine lv_if_ne (tgt := 94) hx hb dX3_faultPlace_86 (by decide) (fun c_86 => ?_) (fun c_86 => ?_)
    · have h := kk_f c_86 h
      refine lv_aload_n hx hb dX3_faultPlace_94 rfl (lv_at hl 0 rfl) ?_
      refine va_get (D := D) (ci := 2) (v := .int v_count) (C := RX3) (T := TX3) (N := 2) hx hb hts (fun _ h9 => List.mem_cons_of_mem _ (List.mem_append_right _ h9)) hown hE.1 hP 0 rfl rfl 1 (by decide) (hts (.fieldLink RX3 15 "PeaCups$Pad" "count" "I") (List.mem_of_getElem? (i := 1) rfl)) (fun _ h9 => h9) rfl dX3_faultPlace_95 ?_
      exact kk_ri hx hb hr hlocks hQ h dX3_faultPlace_98
    · have h := kk_t c_86 h
      refine lv_bipush (v := (-6)) hx hb dX3_faultPlace_89 (by decide) ?_
      refine lv_goto (tgt := 98) hx hb dX3_faultPlace_91 (by decide) ?_
      exact kk_ri hx hb hr hlocks hQ h dX3_faultPlace_98
  have L_6 : ∀ (n_6 : Nat) (x1 : Int32) (x2 : Int32) (x3 : Int32) (ls : Array Slot) (hl : lv_has ls 6 [(0, .ref (a 0)), (1, .int x1), (2, .int x2), (3, .int x3)]) (h : it3 (bd_D_faultPlace_6 v_count v_signs) n_6 x1 x2 x3 = some u), W p l e rm_D_faultPlace s m [.ref (a 0)].toArray below meth c s.heap [] 0 0 Q (F0 m 6 ls []) := by
    intro n_6
    induction n_6 with
    | zero => intro x1 x2 x3 ls hl h; exact kk_no h
    | succ n_6 ih_6 =>
      have J_63 : ∀ (x1 : Int32) (x2 : Int32) (x3 : Int32) (x5 : Int32) (ls : Array Slot) (hl : lv_has ls 6 [(0, .ref (a 0)), (1, .int x1), (2, .int x2), (3, .int x3), (5, .int x5)]) (h : jn_D_faultPlace_63 (it3 (bd_D_faultPlace_6 v_count v_signs) n_6) x1 x2 x3 x5 v_count v_signs = some u), W p l e rm_D_faultPlace s m [.ref (a 0)].toArray below meth c s.heap [] 0 0 Q (F0 m 63 ls []) := by
        intro x1 x2 x3 x5 ls hl h
        unfold jn_D_faultPlace_63 at h
        refine lv_iload_n hx hb dX3_faultPlace_63 rfl (lv_at hl 2 rfl) ?_
        refine lv_iconst (v := 1) hx hb dX3_faultPlace_64 (by decide) ?_
        refine lv_iadd hx hb dX3_faultPlace_65 ?_
        refine lv_iload hx hb dX3_faultPlace_66 (lv_at hl 4 rfl) ?_
        refine lv_icmp_ne (tgt := 75) hx hb dX3_faultPlace_68 (by decide) (fun c_68 => ?_) (fun c_68 => ?_)
        · have h := kk_f c_68 h
          refine lv_iload_n hx hb dX3_faultPlace_75 rfl (lv_at hl 2 rfl) ?_
          refine lv_iconst (v := 1) hx hb dX3_faultPlace_76 (by decide) ?_
          refine lv_iadd hx hb dX3_faultPlace_77 ?_
          refine lv_istore_n (lv' := [(2, .int (x2 + 1)), (0, .ref (a 0)), (1, .int x1), (3, .int x3), (5, .int x5)]) hx hb dX3_faultPlace_78 rfl hl (by decide) rfl (fun ls hl => ?_)
          refine lv_iinc (v := x3 + 1) (lv' := [(3, .int (x3 + 1)), (2, .int (x2 + 1)), (0, .ref (a 0)), (1, .int x1), (5, .int x5)]) hx hb dX3_faultPlace_79 hl (k := 3) rfl rfl (by decide) rfl (fun ls hl => ?_)
          refine lv_goto (tgt := 6) hx hb dX3_faultPlace_82 (by decide) ?_
          exact ih_6 x1 (x2 + 1) (x3 + 1) _ (lv_sub hl [2, 3, 1, 0] rfl) h
        · have h := kk_t c_68 h
          refine lv_iconst (v := 0) hx hb dX3_faultPlace_71 (by decide) ?_
          refine lv_goto (tgt := 78) hx hb dX3_faultPlace_72 (by decide) ?_
          refine lv_istore_n (lv' := [(2, .int 0), (0, .ref (a 0)), (1, .int x1), (3, .int x3), (5, .int x5)]) hx hb dX3_faultPlace_78 rfl hl (by decide) rfl (fun ls hl => ?_)
          refine lv_iinc (v := x3 + 1) (lv' := [(3, .int (x3 + 1)), (2, .int 0), (0, .ref (a 0)), (1, .int x1), (5, .int x5)]) hx hb dX3_faultPlace_79 hl (k := 3) rfl rfl (by decide) rfl (fun ls hl => ?_)
          refine lv_goto (tgt := 6) hx hb dX3_faultPlace_82 (by decide) ?_
          exact ih_6 x1 0 (x3 + 1) _ (lv_sub hl [2, 3, 1, 0] rfl) h
      have J_35 : ∀ (x1 : Int32) (x2 : Int32) (x3 : Int32) (x4 : Int32) (ls : Array Slot) (hl : lv_has ls 6 [(0, .ref (a 0)), (1, .int x1), (2, .int x2), (3, .int x3), (4, .int x4)]) (h : jn_D_faultPlace_35 (it3 (bd_D_faultPlace_6 v_count v_signs) n_6) x1 x2 x3 x4 v_count v_signs = some u), W p l e rm_D_faultPlace s m [.ref (a 0)].toArray below meth c s.heap [] 0 0 Q (F0 m 35 ls []) := by
        intro x1 x2 x3 x4 ls hl h
        unfold jn_D_faultPlace_35 at h
        refine lv_iload_n hx hb dX3_faultPlace_35 rfl (lv_at hl 1 rfl) ?_
        obtain ⟨u_36, h_36, h⟩ := kk_b h
        refine kk_si (va_runS (As := [.int x1]) (rest := []) ⟨hx, hb, hml, hown, hts⟩ (c_D_lengthOf l x1 u_36 h_36) (va_cwS 1 hts gX3_faultPlace_X3_lengthOf rfl rfl rfl nd_D_lengthOf ⟨Nat.le_of_ble_eq_true rfl, Nat.le_of_ble_eq_true rfl⟩) (kk_preS hE.2) rfl rfl hl.1 rfl (lv_room (Nat.le_of_ble_eq_true rfl)) dX3_faultPlace_36 ⟨Nat.zero_le _, Nat.zero_le _⟩) ?_
        refine lv_istore (lv' := [(5, .int u_36), (0, .ref (a 0)), (1, .int x1), (2, .int x2), (3, .int x3), (4, .int x4)]) hx hb dX3_faultPlace_39 hl (by decide) rfl (fun ls hl => ?_)
        refine lv_iload hx hb dX3_faultPlace_41 (lv_at hl 0 rfl) ?_
        refine lv_if_eq (tgt := 61) hx hb dX3_faultPlace_43 (by decide) (fun c_43 => ?_) (fun c_43 => ?_)
        · have h := kk_t c_43 h
          refine lv_iload_n hx hb dX3_faultPlace_61 rfl (lv_at hl 4 rfl) ?_
          exact kk_ri hx hb hr hlocks hQ h dX3_faultPlace_62
        · have h := kk_f c_43 h
          refine lv_iload_n hx hb dX3_faultPlace_46 rfl (lv_at hl 3 rfl) ?_
          refine lv_if_le (tgt := 63) hx hb dX3_faultPlace_47 (by decide) (fun c_47 => ?_) (fun c_47 => ?_)
          · have h := kk_t c_47 h
            exact J_63 x1 x2 x3 u_36 _ (lv_sub hl [1, 2, 3, 4, 0] rfl) h
          · have h := kk_f c_47 h
            refine lv_iload hx hb dX3_faultPlace_50 (lv_at hl 5 rfl) ?_
            refine lv_iload_n hx hb dX3_faultPlace_52 rfl (lv_at hl 3 rfl) ?_
            refine lv_iload hx hb dX3_faultPlace_53 (lv_at hl 0 rfl) ?_
            obtain ⟨u_55, h_55, h⟩ := kk_b h
            refine kk_si (va_runS (As := [.int x4, .int x2, .int u_36]) (rest := []) ⟨hx, hb, hml, hown, hts⟩ (c_D_isFitting l x4 x2 u_36 u_55 h_55) (va_cwS 3 hts gX3_faultPlace_X3_isFitting rfl rfl rfl nd_D_isFitting ⟨Nat.le_of_ble_eq_true rfl, Nat.le_of_ble_eq_true rfl⟩) (kk_preS hE.2) rfl rfl hl.1 rfl (lv_room (Nat.le_of_ble_eq_true rfl)) dX3_faultPlace_55 ⟨Nat.zero_le _, Nat.zero_le _⟩) ?_
            refine lv_if_ne (tgt := 63) hx hb dX3_faultPlace_58 (by decide) (fun c_58 => ?_) (fun c_58 => ?_)
            · have h := kk_f c_58 h
              exact J_63 x1 x2 x3 u_36 _ (lv_sub hl [1, 2, 3, 4, 0] rfl) h
            · have h := kk_t c_58 h
              refine lv_iload_n hx hb dX3_faultPlace_61 rfl (lv_at hl 4 rfl) ?_
              exact kk_ri hx hb hr hlocks hQ h dX3_faultPlace_62
      intro x1 x2 x3 ls hl h
      have h : bd_D_faultPlace_6 v_count v_signs (it3 (bd_D_faultPlace_6 v_count v_signs) n_6) x1 x2 x3 = some u := h
      unfold bd_D_faultPlace_6 at h
      refine lv_iload_n hx hb dX3_faultPlace_6 rfl (lv_at hl 3 rfl) ?_
      refine lv_aload_n hx hb dX3_faultPlace_7 rfl (lv_at hl 0 rfl) ?_
      refine va_get (D := D) (ci := 2) (v := .int v_count) (C := RX3) (T := TX3) (N := 2) hx hb hts (fun _ h9 => List.mem_cons_of_mem _ (List.mem_append_right _ h9)) hown hE.1 hP 0 rfl rfl 1 (by decide) (hts (.fieldLink RX3 15 "PeaCups$Pad" "count" "I") (List.mem_of_getElem? (i := 1) rfl)) (fun _ h9 => h9) rfl dX3_faultPlace_8 ?_
      refine lv_icmp_ge (tgt := 85) hx hb dX3_faultPlace_11 (by decide) (fun c_11 => ?_) (fun c_11 => ?_)
      · have h := kk_t c_11 h
        exact J_85 x2 _ (lv_sub hl [0, 2] rfl) h
      · have h := kk_f c_11 h
        refine lv_iload_n hx hb dX3_faultPlace_14 rfl (lv_at hl 3 rfl) ?_
        refine lv_bipush (v := 60) hx hb dX3_faultPlace_15 (by decide) ?_
        refine lv_icmp_ge (tgt := 85) hx hb dX3_faultPlace_17 (by decide) (fun c_17 => ?_) (fun c_17 => ?_)
        · have h := kk_t c_17 h
          exact J_85 x2 _ (lv_sub hl [0, 2] rfl) h
        · have h := kk_f c_17 h
          refine lv_aload_n hx hb dX3_faultPlace_20 rfl (lv_at hl 0 rfl) ?_
          refine va_get (D := D) (ci := 2) (v := .ref (a 1)) (C := RX3) (T := TX3) (N := 2) hx hb hts (fun _ h9 => List.mem_cons_of_mem _ (List.mem_append_right _ h9)) hown hE.1 hP 0 rfl rfl 0 (by decide) (hts (.fieldLink RX3 11 "PeaCups$Pad" "signs" "[I") (List.mem_of_getElem? (i := 2) rfl)) (fun _ h9 => h9) rfl dX3_faultPlace_21 ?_
          refine lv_iload_n hx hb dX3_faultPlace_24 rfl (lv_at hl 3 rfl) ?_
          obtain ⟨i_25, h⟩ := kk_x h
          refine va_iald hx hb hE.1 hP 1 0 rfl rfl i_25 dX3_faultPlace_25 ?_
          refine lv_istore (lv' := [(4, .int (v_signs (x3 : Int32).toNatClampNeg)), (0, .ref (a 0)), (1, .int x1), (2, .int x2), (3, .int x3)]) hx hb dX3_faultPlace_26 hl (by decide) rfl (fun ls hl => ?_)
          refine lv_iload_n hx hb dX3_faultPlace_28 rfl (lv_at hl 3 rfl) ?_
          refine lv_if_ne (tgt := 35) hx hb dX3_faultPlace_29 (by decide) (fun c_29 => ?_) (fun c_29 => ?_)
          · have h := kk_f c_29 h
            exact J_35 x1 x2 x3 (v_signs (x3 : Int32).toNatClampNeg) _ (lv_sub hl [1, 2, 3, 4, 0] rfl) h
          · have h := kk_t c_29 h
            refine lv_iload hx hb dX3_faultPlace_32 (lv_at hl 0 rfl) ?_
            refine lv_istore_n (lv' := [(1, .int (v_signs (x3 : Int32).toNatClampNeg)), (4, .int (v_signs (x3 : Int32).toNatClampNeg)), (0, .ref (a 0)), (2, .int x2), (3, .int x3)]) hx hb dX3_faultPlace_34 rfl hl (by decide) rfl (fun ls hl => ?_)
            exact J_35 (v_signs (x3 : Int32).toNatClampNeg) x2 x3 (v_signs (x3 : Int32).toNatClampNeg) _ (lv_sub hl [2, 0, 3, 4, 1] rfl) h
  refine lv_iconst (v := 0) hx hb dX3_faultPlace_0 (by decide) ?_
  refine lv_istore_n (lv' := [(1, .int 0), (0, .ref (a 0))]) hx hb dX3_faultPlace_1 rfl hl (by decide) rfl (fun ls hl => ?_)
  refine lv_iconst (v := 0) hx hb dX3_faultPlace_2 (by decide) ?_
  refine lv_istore_n (lv' := [(2, .int 0), (1, .int 0), (0, .ref (a 0))]) hx hb dX3_faultPlace_3 rfl hl (by decide) rfl (fun ls hl => ?_)
  refine lv_iconst (v := 0) hx hb dX3_faultPlace_4 (by decide) ?_
  refine lv_istore_n (lv' := [(3, .int 0), (2, .int 0), (1, .int 0), (0, .ref (a 0))]) hx hb dX3_faultPlace_5 rfl hl (by decide) rfl (fun ls hl => ?_)
  exact L_6 _ 0 0 0 _ (lv_sub hl [3, 2, 1, 0] rfl) h
abbrev rm_D_signAt : Room := { frames := 0, cells := 0, slots := 0, locals := 0 }
theorem nv_D_signAt : yX3_signAt.cls = RX3 ∧ yX3_signAt.cls ≠ "java/lang/invoke/MethodHandle" ∧ yX3_signAt.cls ≠ "java/lang/invoke/VarHandle" ∧ (parseMethodDescriptor yX3_signAt.desc).map (fun d => d.parameters.length) = some 1 := by decide +kernel
set_option maxHeartbeats 4000000 in
set_option maxRecDepth 100000 in
theorem c_D_signAt (l : Launch) (D : va_G) (cy : Nat → Nat) (a : Nat → Nat) (p1 : Int32) (v_count : Int32) (v_signs : (Nat → Int32)) (u : Int32) (h : f_D_signAt p1 v_signs = some u) : Met l yX3_signAt wsX3_signAt rm_D_signAt (kk_PR D cy [(a 0, .inr (2, [.ref (a 1), .int v_count])), (a 1, .inl (cy 0, 60, .inl v_signs))] [.ref (a 0), .int p1]) (vp_Si (fun r => r = u)) 0 0 (fun _ => False) := by
  refine kk_met (cc := cX3_signAt) (maxL := 2) (ret := some .int) (by decide) rfl (Nat.le_of_ble_eq_true rfl) ?_
  intro p e s m below meth c hx hb hr hml hts hown hlocks hB ls hl Q hQ
  obtain ⟨hP, hE⟩ := hB
  have hown : s.vm.findClass RX3 = some m.cls := hown
  have hl : lv_has ls 2 [(0, .ref (a 0)), (1, .int p1)] := hl
  unfold f_D_signAt at h
  refine lv_iload_n hx hb dX3_signAt_0 rfl (lv_at hl 1 rfl) ?_
  refine lv_if_lt (tgt := 19) hx hb dX3_signAt_1 (by decide) (fun c_1 => ?_) (fun c_1 => ?_)
  · have h := kk_t c_1 h
    refine lv_iconst (v := 0) hx hb dX3_signAt_19 (by decide) ?_
    exact kk_ri hx hb hr hlocks hQ h dX3_signAt_20
  · have h := kk_f c_1 h
    refine lv_iload_n hx hb dX3_signAt_4 rfl (lv_at hl 1 rfl) ?_
    refine lv_bipush (v := 60) hx hb dX3_signAt_5 (by decide) ?_
    refine lv_icmp_ge (tgt := 19) hx hb dX3_signAt_7 (by decide) (fun c_7 => ?_) (fun c_7 => ?_)
    · have h := kk_t c_7 h
      refine lv_iconst (v := 0) hx hb dX3_signAt_19 (by decide) ?_
      exact kk_ri hx hb hr hlocks hQ h dX3_signAt_20
    · have h := kk_f c_7 h
      refine lv_aload_n hx hb dX3_signAt_10 rfl (lv_at hl 0 rfl) ?_
      refine va_get (D := D) (ci := 2) (v := .ref (a 1)) (C := RX3) (T := TX3) (N := 2) hx hb hts (fun _ h9 => List.mem_cons_of_mem _ (List.mem_append_right _ h9)) hown hE.1 hP 0 rfl rfl 0 (by decide) (hts (.fieldLink RX3 11 "PeaCups$Pad" "signs" "[I") (List.mem_of_getElem? (i := 1) rfl)) (fun _ h9 => h9) rfl dX3_signAt_11 ?_
      refine lv_iload_n hx hb dX3_signAt_14 rfl (lv_at hl 1 rfl) ?_
      obtain ⟨i_15, h⟩ := kk_x h
      refine va_iald hx hb hE.1 hP 1 0 rfl rfl i_15 dX3_signAt_15 ?_
      refine lv_goto (tgt := 20) hx hb dX3_signAt_16 (by decide) ?_
      exact kk_ri hx hb hr hlocks hQ h dX3_signAt_20
abbrev rm_D_digitAt : Room := { frames := 1, cells := 0, slots := 0, locals := 21 }
theorem nv_D_digitAt : yX3_digitAt.cls = RX3 ∧ yX3_digitAt.cls ≠ "java/lang/invoke/MethodHandle" ∧ yX3_digitAt.cls ≠ "java/lang/invoke/VarHandle" ∧ (parseMethodDescriptor yX3_digitAt.desc).map (fun d => d.parameters.length) = some 1 := by decide +kernel
set_option maxHeartbeats 4000000 in
set_option maxRecDepth 100000 in
theorem c_D_digitAt (l : Launch) (D : va_G) (cy : Nat → Nat) (a : Nat → Nat) (p1 : Int32) (v_count : Int32) (v_signs : (Nat → Int32)) (u : Int32) (h : f_D_digitAt p1 v_signs = some u) : Met l yX3_digitAt wsX3_digitAt rm_D_digitAt (kk_PR D cy [(a 0, .inr (2, [.ref (a 1), .int v_count])), (a 1, .inl (cy 0, 60, .inl v_signs))] [.ref (a 0), .int p1]) (vp_Si (fun r => r = u)) 0 0 (fun _ => False) := by
  refine kk_met (cc := cX3_digitAt) (maxL := 2) (ret := some .int) (by decide) rfl (Nat.le_of_ble_eq_true rfl) ?_
  intro p e s m below meth c hx hb hr hml hts hown hlocks hB ls hl Q hQ
  obtain ⟨hP, hE⟩ := hB
  have hown : s.vm.findClass RX3 = some m.cls := hown
  have hl : lv_has ls 2 [(0, .ref (a 0)), (1, .int p1)] := hl
  unfold f_D_digitAt at h
  refine lv_aload_n hx hb dX3_digitAt_0 rfl (lv_at hl 0 rfl) ?_
  refine lv_iload_n hx hb dX3_digitAt_1 rfl (lv_at hl 1 rfl) ?_
  obtain ⟨u_2, h_2, h⟩ := kk_b h
  refine kk_si (va_runV (As := [.int p1]) (rest := []) ⟨hx, hb, hml, hown, hts⟩ (c_D_signAt l D cy a p1 v_count v_signs u_2 h_2) (cwV 1 hts gX3_digitAt_X3_signAt rfl rfl rfl nv_D_signAt ⟨Nat.le_of_ble_eq_true rfl, Nat.le_of_ble_eq_true rfl⟩) (kk_preRV hE (hP.sub [0, 1] rfl) (q0 := 0) (ci := 2) rfl rfl) rfl rfl hl.1 rfl (lv_room (Nat.le_of_ble_eq_true rfl)) dX3_digitAt_2 ⟨Nat.zero_le _, Nat.zero_le _⟩) ?_
  refine lv_bipush (v := 48) hx hb dX3_digitAt_5 (by decide) ?_
  refine lv_isub hx hb dX3_digitAt_7 ?_
  exact kk_ri hx hb hr hlocks hQ h dX3_digitAt_8
abbrev rm_A_setChange : Room := { frames := 0, cells := 0, slots := 0, locals := 0 }
theorem nv_A_setChange : yX0_setChange.cls = RX0 ∧ yX0_setChange.cls ≠ "java/lang/invoke/MethodHandle" ∧ yX0_setChange.cls ≠ "java/lang/invoke/VarHandle" ∧ (parseMethodDescriptor yX0_setChange.desc).map (fun d => d.parameters.length) = some 3 := by decide +kernel
abbrev wo_A_setChange (cy : Nat → Nat) (a : Nat → Nat) (v_watcher : Int32) (u : Int32 × Int32 × Int32 × Int32) : va_W := [(a 0, .inr (0, [.int u.1, .int u.2.1, .int u.2.2.1, .int v_watcher, .int u.2.2.2]))]
set_option maxHeartbeats 4000000 in
set_option maxRecDepth 100000 in
theorem c_A_setChange (l : Launch) (D : va_G) (cy : Nat → Nat) (a : Nat → Nat) (sz : Nat) (p1 : Int32) (p2 : Int32) (p3 : Int32) (v_kind : Int32) (v_place : Int32) (v_otherPlace : Int32) (v_watcher : Int32) (v_number : Int32) (u : Int32 × Int32 × Int32 × Int32) (h : f_A_setChange p1 p2 p3 v_kind v_place v_otherPlace v_number = some u) : Met l yX0_setChange wsX0_setChange rm_A_setChange (kk_PW D cy [(a 0, .inr (0, [.int v_kind, .int v_place, .int v_otherPlace, .int v_watcher, .int v_number]))] sz [.ref (a 0), .int p1, .int p2, .int p3]) (kk_Qv D (wo_A_setChange cy a v_watcher u) (va_A [(a 0, .inr (0, [.int v_kind, .int v_place, .int v_otherPlace, .int v_watcher, .int v_number]))] sz)) 0 0 (va_A [(a 0, .inr (0, [.int v_kind, .int v_place, .int v_otherPlace, .int v_watcher, .int v_number]))] sz) := by
  refine kk_met (cc := cX0_setChange) (maxL := 4) (ret := none) (by decide) rfl (Nat.le_of_ble_eq_true rfl) ?_
  intro p e s m below meth c hx hb hr hml hts hown hlocks hB ls hl Q hQ
  obtain ⟨hsz, hP, hE, hD0⟩ := hB
  subst hsz
  have hD := hD0.self (sz := s.heap.size)
  generalize hAe : va_A [(a 0, .inr (0, [.int v_kind, .int v_place, .int v_otherPlace, .int v_watcher, .int v_number]))] s.heap.size = A at hD hQ
  have hA : ∀ q : Nat, s.heap.size ≤ q → A q := fun q h => by rw [← hAe]; exact Or.inr h
  have hS : va_S A s.heap s.heap [] := va_S.rf
  have hown : s.vm.findClass RX0 = some m.cls := hown
  have hl : lv_has ls 4 [(0, .ref (a 0)), (1, .int p1), (2, .int p2), (3, .int p3)] := hl
  unfold f_A_setChange at h
  refine lv_aload_n hx hb dX0_setChange_0 rfl (lv_at hl 0 rfl) ?_
  refine lv_iconst (v := 0) hx hb dX0_setChange_1 (by decide) ?_
  refine va_put (D := D) (ci := 0) (v := .int 0) (ty := .int) (C := RX0) (T := TX0) (N := 5) hx hb hts (fun _ h9 => List.mem_cons_of_mem _ (List.mem_append_right _ h9)) tyX0 tyX0_ok nmX0 hown hE.1 hP hD hS 0 rfl rfl 0 (by decide) (hts (.fieldLink RX0 11 "PeaCups$Act" "kind" "I") (List.mem_of_getElem? (i := 1) rfl)) (fun _ h9 => h9) rfl (by decide +kernel) rfl rfl (Nat.le_of_ble_eq_true rfl) dX0_setChange_2 (fun H locs hP hD hS => ?_)
  have hP : va_P D vwCl [(a 0, .inr (0, [.int 0, .int v_place, .int v_otherPlace, .int v_watcher, .int v_number]))] H := hP
  have hD : va_D A [(a 0, .inr (0, [.int 0, .int v_place, .int v_otherPlace, .int v_watcher, .int v_number]))] := hD
  refine lv_aload_n hx hb dX0_setChange_5 rfl (lv_at hl 0 rfl) ?_
  refine lv_iload_n hx hb dX0_setChange_6 rfl (lv_at hl 1 rfl) ?_
  refine va_put (D := D) (ci := 0) (v := .int p1) (ty := .int) (C := RX0) (T := TX0) (N := 5) hx hb hts (fun _ h9 => List.mem_cons_of_mem _ (List.mem_append_right _ h9)) tyX0 tyX0_ok nmX0 hown hE.1 hP hD hS 0 rfl rfl 1 (by decide) (hts (.fieldLink RX0 15 "PeaCups$Act" "place" "I") (List.mem_of_getElem? (i := 2) rfl)) (fun _ h9 => h9) rfl (by decide +kernel) rfl rfl (Nat.le_of_ble_eq_true rfl) dX0_setChange_7 (fun H locs hP hD hS => ?_)
  have hP : va_P D vwCl [(a 0, .inr (0, [.int 0, .int p1, .int v_otherPlace, .int v_watcher, .int v_number]))] H := hP
  have hD : va_D A [(a 0, .inr (0, [.int 0, .int p1, .int v_otherPlace, .int v_watcher, .int v_number]))] := hD
  refine lv_aload_n hx hb dX0_setChange_10 rfl (lv_at hl 0 rfl) ?_
  refine lv_iload_n hx hb dX0_setChange_11 rfl (lv_at hl 2 rfl) ?_
  refine va_put (D := D) (ci := 0) (v := .int p2) (ty := .int) (C := RX0) (T := TX0) (N := 5) hx hb hts (fun _ h9 => List.mem_cons_of_mem _ (List.mem_append_right _ h9)) tyX0 tyX0_ok nmX0 hown hE.1 hP hD hS 0 rfl rfl 2 (by decide) (hts (.fieldLink RX0 18 "PeaCups$Act" "otherPlace" "I") (List.mem_of_getElem? (i := 3) rfl)) (fun _ h9 => h9) rfl (by decide +kernel) rfl rfl (Nat.le_of_ble_eq_true rfl) dX0_setChange_12 (fun H locs hP hD hS => ?_)
  have hP : va_P D vwCl [(a 0, .inr (0, [.int 0, .int p1, .int p2, .int v_watcher, .int v_number]))] H := hP
  have hD : va_D A [(a 0, .inr (0, [.int 0, .int p1, .int p2, .int v_watcher, .int v_number]))] := hD
  refine lv_aload_n hx hb dX0_setChange_15 rfl (lv_at hl 0 rfl) ?_
  refine lv_iload_n hx hb dX0_setChange_16 rfl (lv_at hl 3 rfl) ?_
  refine va_put (D := D) (ci := 0) (v := .int p3) (ty := .int) (C := RX0) (T := TX0) (N := 5) hx hb hts (fun _ h9 => List.mem_cons_of_mem _ (List.mem_append_right _ h9)) tyX0 tyX0_ok nmX0 hown hE.1 hP hD hS 0 rfl rfl 4 (by decide) (hts (.fieldLink RX0 21 "PeaCups$Act" "number" "I") (List.mem_of_getElem? (i := 4) rfl)) (fun _ h9 => h9) rfl (by decide +kernel) rfl rfl (Nat.le_of_ble_eq_true rfl) dX0_setChange_17 (fun H locs hP hD hS => ?_)
  have hP : va_P D vwCl [(a 0, .inr (0, [.int 0, .int p1, .int p2, .int v_watcher, .int p3]))] H := hP
  have hD : va_D A [(a 0, .inr (0, [.int 0, .int p1, .int p2, .int v_watcher, .int p3]))] := hD
  exact kk_rwv (wf := wo_A_setChange cy a v_watcher) hx hb hr hlocks h hQ hP hD hS dX0_setChange_20
abbrev rm_A_setAt : Room := { frames := 0, cells := 0, slots := 0, locals := 0 }
theorem nv_A_setAt : yX0_setAt.cls = RX0 ∧ yX0_setAt.cls ≠ "java/lang/invoke/MethodHandle" ∧ yX0_setAt.cls ≠ "java/lang/invoke/VarHandle" ∧ (parseMethodDescriptor yX0_setAt.desc).map (fun d => d.parameters.length) = some 2 := by decide +kernel
abbrev wo_A_setAt (cy : Nat → Nat) (a : Nat → Nat) (v_otherPlace : Int32) (v_watcher : Int32) (v_number : Int32) (u : Int32 × Int32) : va_W := [(a 0, .inr (0, [.int u.1, .int u.2, .int v_otherPlace, .int v_watcher, .int v_number]))]
set_option maxHeartbeats 4000000 in
set_option maxRecDepth 100000 in
theorem c_A_setAt (l : Launch) (D : va_G) (cy : Nat → Nat) (a : Nat → Nat) (sz : Nat) (p1 : Int32) (p2 : Int32) (v_kind : Int32) (v_place : Int32) (v_otherPlace : Int32) (v_watcher : Int32) (v_number : Int32) (u : Int32 × Int32) (h : f_A_setAt p1 p2 v_kind v_place = some u) : Met l yX0_setAt wsX0_setAt rm_A_setAt (kk_PW D cy [(a 0, .inr (0, [.int v_kind, .int v_place, .int v_otherPlace, .int v_watcher, .int v_number]))] sz [.ref (a 0), .int p1, .int p2]) (kk_Qv D (wo_A_setAt cy a v_otherPlace v_watcher v_number u) (va_A [(a 0, .inr (0, [.int v_kind, .int v_place, .int v_otherPlace, .int v_watcher, .int v_number]))] sz)) 0 0 (va_A [(a 0, .inr (0, [.int v_kind, .int v_place, .int v_otherPlace, .int v_watcher, .int v_number]))] sz) := by
  refine kk_met (cc := cX0_setAt) (maxL := 3) (ret := none) (by decide) rfl (Nat.le_of_ble_eq_true rfl) ?_
  intro p e s m below meth c hx hb hr hml hts hown hlocks hB ls hl Q hQ
  obtain ⟨hsz, hP, hE, hD0⟩ := hB
  subst hsz
  have hD := hD0.self (sz := s.heap.size)
  generalize hAe : va_A [(a 0, .inr (0, [.int v_kind, .int v_place, .int v_otherPlace, .int v_watcher, .int v_number]))] s.heap.size = A at hD hQ
  have hA : ∀ q : Nat, s.heap.size ≤ q → A q := fun q h => by rw [← hAe]; exact Or.inr h
  have hS : va_S A s.heap s.heap [] := va_S.rf
  have hown : s.vm.findClass RX0 = some m.cls := hown
  have hl : lv_has ls 3 [(0, .ref (a 0)), (1, .int p1), (2, .int p2)] := hl
  unfold f_A_setAt at h
  refine lv_aload_n hx hb dX0_setAt_0 rfl (lv_at hl 0 rfl) ?_
  refine lv_iload_n hx hb dX0_setAt_1 rfl (lv_at hl 1 rfl) ?_
  refine va_put (D := D) (ci := 0) (v := .int p1) (ty := .int) (C := RX0) (T := TX0) (N := 5) hx hb hts (fun _ h9 => List.mem_cons_of_mem _ (List.mem_append_right _ h9)) tyX0 tyX0_ok nmX0 hown hE.1 hP hD hS 0 rfl rfl 0 (by decide) (hts (.fieldLink RX0 11 "PeaCups$Act" "kind" "I") (List.mem_of_getElem? (i := 1) rfl)) (fun _ h9 => h9) rfl (by decide +kernel) rfl rfl (Nat.le_of_ble_eq_true rfl) dX0_setAt_2 (fun H locs hP hD hS => ?_)
  have hP : va_P D vwCl [(a 0, .inr (0, [.int p1, .int v_place, .int v_otherPlace, .int v_watcher, .int v_number]))] H := hP
  have hD : va_D A [(a 0, .inr (0, [.int p1, .int v_place, .int v_otherPlace, .int v_watcher, .int v_number]))] := hD
  refine lv_aload_n hx hb dX0_setAt_5 rfl (lv_at hl 0 rfl) ?_
  refine lv_iload_n hx hb dX0_setAt_6 rfl (lv_at hl 2 rfl) ?_
  refine va_put (D := D) (ci := 0) (v := .int p2) (ty := .int) (C := RX0) (T := TX0) (N := 5) hx hb hts (fun _ h9 => List.mem_cons_of_mem _ (List.mem_append_right _ h9)) tyX0 tyX0_ok nmX0 hown hE.1 hP hD hS 0 rfl rfl 1 (by decide) (hts (.fieldLink RX0 15 "PeaCups$Act" "place" "I") (List.mem_of_getElem? (i := 2) rfl)) (fun _ h9 => h9) rfl (by decide +kernel) rfl rfl (Nat.le_of_ble_eq_true rfl) dX0_setAt_7 (fun H locs hP hD hS => ?_)
  have hP : va_P D vwCl [(a 0, .inr (0, [.int p1, .int p2, .int v_otherPlace, .int v_watcher, .int v_number]))] H := hP
  have hD : va_D A [(a 0, .inr (0, [.int p1, .int p2, .int v_otherPlace, .int v_watcher, .int v_number]))] := hD
  exact kk_rwv (wf := wo_A_setAt cy a v_otherPlace v_watcher v_number) hx hb hr hlocks h hQ hP hD hS dX0_setAt_10
abbrev rm_A_setBet : Room := { frames := 0, cells := 0, slots := 0, locals := 0 }
theorem nv_A_setBet : yX0_setBet.cls = RX0 ∧ yX0_setBet.cls ≠ "java/lang/invoke/MethodHandle" ∧ yX0_setBet.cls ≠ "java/lang/invoke/VarHandle" ∧ (parseMethodDescriptor yX0_setBet.desc).map (fun d => d.parameters.length) = some 3 := by decide +kernel
abbrev wo_A_setBet (cy : Nat → Nat) (a : Nat → Nat) (v_otherPlace : Int32) (u : Int32 × Int32 × Int32 × Int32) : va_W := [(a 0, .inr (0, [.int u.1, .int u.2.1, .int v_otherPlace, .int u.2.2.1, .int u.2.2.2]))]
set_option maxHeartbeats 4000000 in
set_option maxRecDepth 100000 in
theorem c_A_setBet (l : Launch) (D : va_G) (cy : Nat → Nat) (a : Nat → Nat) (sz : Nat) (p1 : Int32) (p2 : Int32) (p3 : Int32) (v_kind : Int32) (v_place : Int32) (v_otherPlace : Int32) (v_watcher : Int32) (v_number : Int32) (u : Int32 × Int32 × Int32 × Int32) (h : f_A_setBet p1 p2 p3 v_kind v_place v_watcher v_number = some u) : Met l yX0_setBet wsX0_setBet rm_A_setBet (kk_PW D cy [(a 0, .inr (0, [.int v_kind, .int v_place, .int v_otherPlace, .int v_watcher, .int v_number]))] sz [.ref (a 0), .int p1, .int p2, .int p3]) (kk_Qv D (wo_A_setBet cy a v_otherPlace u) (va_A [(a 0, .inr (0, [.int v_kind, .int v_place, .int v_otherPlace, .int v_watcher, .int v_number]))] sz)) 0 0 (va_A [(a 0, .inr (0, [.int v_kind, .int v_place, .int v_otherPlace, .int v_watcher, .int v_number]))] sz) := by
  refine kk_met (cc := cX0_setBet) (maxL := 4) (ret := none) (by decide) rfl (Nat.le_of_ble_eq_true rfl) ?_
  intro p e s m below meth c hx hb hr hml hts hown hlocks hB ls hl Q hQ
  obtain ⟨hsz, hP, hE, hD0⟩ := hB
  subst hsz
  have hD := hD0.self (sz := s.heap.size)
  generalize hAe : va_A [(a 0, .inr (0, [.int v_kind, .int v_place, .int v_otherPlace, .int v_watcher, .int v_number]))] s.heap.size = A at hD hQ
  have hA : ∀ q : Nat, s.heap.size ≤ q → A q := fun q h => by rw [← hAe]; exact Or.inr h
  have hS : va_S A s.heap s.heap [] := va_S.rf
  have hown : s.vm.findClass RX0 = some m.cls := hown
  have hl : lv_has ls 4 [(0, .ref (a 0)), (1, .int p1), (2, .int p2), (3, .int p3)] := hl
  unfold f_A_setBet at h
  refine lv_aload_n hx hb dX0_setBet_0 rfl (lv_at hl 0 rfl) ?_
  refine lv_iconst (v := 3) hx hb dX0_setBet_1 (by decide) ?_
  refine va_put (D := D) (ci := 0) (v := .int 3) (ty := .int) (C := RX0) (T := TX0) (N := 5) hx hb hts (fun _ h9 => List.mem_cons_of_mem _ (List.mem_append_right _ h9)) tyX0 tyX0_ok nmX0 hown hE.1 hP hD hS 0 rfl rfl 0 (by decide) (hts (.fieldLink RX0 11 "PeaCups$Act" "kind" "I") (List.mem_of_getElem? (i := 1) rfl)) (fun _ h9 => h9) rfl (by decide +kernel) rfl rfl (Nat.le_of_ble_eq_true rfl) dX0_setBet_2 (fun H locs hP hD hS => ?_)
  have hP : va_P D vwCl [(a 0, .inr (0, [.int 3, .int v_place, .int v_otherPlace, .int v_watcher, .int v_number]))] H := hP
  have hD : va_D A [(a 0, .inr (0, [.int 3, .int v_place, .int v_otherPlace, .int v_watcher, .int v_number]))] := hD
  refine lv_aload_n hx hb dX0_setBet_5 rfl (lv_at hl 0 rfl) ?_
  refine lv_iload_n hx hb dX0_setBet_6 rfl (lv_at hl 1 rfl) ?_
  refine va_put (D := D) (ci := 0) (v := .int p1) (ty := .int) (C := RX0) (T := TX0) (N := 5) hx hb hts (fun _ h9 => List.mem_cons_of_mem _ (List.mem_append_right _ h9)) tyX0 tyX0_ok nmX0 hown hE.1 hP hD hS 0 rfl rfl 3 (by decide) (hts (.fieldLink RX0 24 "PeaCups$Act" "watcher" "I") (List.mem_of_getElem? (i := 2) rfl)) (fun _ h9 => h9) rfl (by decide +kernel) rfl rfl (Nat.le_of_ble_eq_true rfl) dX0_setBet_7 (fun H locs hP hD hS => ?_)
  have hP : va_P D vwCl [(a 0, .inr (0, [.int 3, .int v_place, .int v_otherPlace, .int p1, .int v_number]))] H := hP
  have hD : va_D A [(a 0, .inr (0, [.int 3, .int v_place, .int v_otherPlace, .int p1, .int v_number]))] := hD
  refine lv_aload_n hx hb dX0_setBet_10 rfl (lv_at hl 0 rfl) ?_
  refine lv_iload_n hx hb dX0_setBet_11 rfl (lv_at hl 2 rfl) ?_
  refine va_put (D := D) (ci := 0) (v := .int p2) (ty := .int) (C := RX0) (T := TX0) (N := 5) hx hb hts (fun _ h9 => List.mem_cons_of_mem _ (List.mem_append_right _ h9)) tyX0 tyX0_ok nmX0 hown hE.1 hP hD hS 0 rfl rfl 1 (by decide) (hts (.fieldLink RX0 15 "PeaCups$Act" "place" "I") (List.mem_of_getElem? (i := 3) rfl)) (fun _ h9 => h9) rfl (by decide +kernel) rfl rfl (Nat.le_of_ble_eq_true rfl) dX0_setBet_12 (fun H locs hP hD hS => ?_)
  have hP : va_P D vwCl [(a 0, .inr (0, [.int 3, .int p2, .int v_otherPlace, .int p1, .int v_number]))] H := hP
  have hD : va_D A [(a 0, .inr (0, [.int 3, .int p2, .int v_otherPlace, .int p1, .int v_number]))] := hD
  refine lv_aload_n hx hb dX0_setBet_15 rfl (lv_at hl 0 rfl) ?_
  refine lv_iload_n hx hb dX0_setBet_16 rfl (lv_at hl 3 rfl) ?_
  refine va_put (D := D) (ci := 0) (v := .int p3) (ty := .int) (C := RX0) (T := TX0) (N := 5) hx hb hts (fun _ h9 => List.mem_cons_of_mem _ (List.mem_append_right _ h9)) tyX0 tyX0_ok nmX0 hown hE.1 hP hD hS 0 rfl rfl 4 (by decide) (hts (.fieldLink RX0 21 "PeaCups$Act" "number" "I") (List.mem_of_getElem? (i := 4) rfl)) (fun _ h9 => h9) rfl (by decide +kernel) rfl rfl (Nat.le_of_ble_eq_true rfl) dX0_setBet_17 (fun H locs hP hD hS => ?_)
  have hP : va_P D vwCl [(a 0, .inr (0, [.int 3, .int p2, .int v_otherPlace, .int p1, .int p3]))] H := hP
  have hD : va_D A [(a 0, .inr (0, [.int 3, .int p2, .int v_otherPlace, .int p1, .int p3]))] := hD
  exact kk_rwv (wf := wo_A_setBet cy a v_otherPlace) hx hb hr hlocks h hQ hP hD hS dX0_setBet_20
abbrev rm_D_readAct : Room := { frames := 2, cells := 0, slots := 0, locals := 42 }
theorem nv_D_readAct : yX3_readAct.cls = RX3 ∧ yX3_readAct.cls ≠ "java/lang/invoke/MethodHandle" ∧ yX3_readAct.cls ≠ "java/lang/invoke/VarHandle" ∧ (parseMethodDescriptor yX3_readAct.desc).map (fun d => d.parameters.length) = some 2 := by decide +kernel
abbrev wo_D_readAct (cy : Nat → Nat) (a : Nat → Nat) (b : Nat → Nat) (v_count : Int32) (v_signs : (Nat → Int32)) (u : Int32 × Int32 × Int32 × Int32 × Int32 × Int32) : va_W := [(a 0, .inr (2, [.ref (a 1), .int v_count])), (a 1, .inl (cy 0, 60, .inl v_signs)), (b 0, .inr (0, [.int u.2.1, .int u.2.2.1, .int u.2.2.2.1, .int u.2.2.2.2.1, .int u.2.2.2.2.2]))]
set_option maxHeartbeats 4000000 in
set_option maxRecDepth 100000 in
theorem c_D_readAct (l : Launch) (D : va_G) (cy : Nat → Nat) (a b : Nat → Nat) (sz : Nat) (p1 : Int32) (v_count : Int32) (v_signs : (Nat → Int32)) (o_kind : Int32) (o_place : Int32) (o_otherPlace : Int32) (o_watcher : Int32) (o_number : Int32) (u : Int32 × Int32 × Int32 × Int32 × Int32 × Int32) (h : f_D_readAct p1 v_signs o_kind o_place o_otherPlace o_watcher o_number = some u) : Met l yX3_readAct wsX3_readAct rm_D_readAct (kk_PW D cy [(a 0, .inr (2, [.ref (a 1), .int v_count])), (a 1, .inl (cy 0, 60, .inl v_signs)), (b 0, .inr (0, [.int o_kind, .int o_place, .int o_otherPlace, .int o_watcher, .int o_number]))] sz [.ref (a 0), .int p1, .ref (b 0)]) (kk_Qi D (wo_D_readAct cy a b v_count v_signs u) u.1 (va_A [(a 0, .inr (2, [.ref (a 1), .int v_count])), (a 1, .inl (cy 0, 60, .inl v_signs)), (b 0, .inr (0, [.int o_kind, .int o_place, .int o_otherPlace, .int o_watcher, .int o_number]))] sz)) 0 0 (va_A [(a 0, .inr (2, [.ref (a 1), .int v_count])), (a 1, .inl (cy 0, 60, .inl v_signs)), (b 0, .inr (0, [.int o_kind, .int o_place, .int o_otherPlace, .int o_watcher, .int o_number]))] sz) := by
  refine kk_met (cc := cX3_readAct) (maxL := 4) (ret := some .int) (by decide) rfl (Nat.le_of_ble_eq_true rfl) ?_
  intro p e s m below meth c hx hb hr hml hts hown hlocks hB ls hl Q hQ
  obtain ⟨hsz, hP, hE, hD0⟩ := hB
  subst hsz
  have hD := hD0.self (sz := s.heap.size)
  generalize hAe : va_A [(a 0, .inr (2, [.ref (a 1), .int v_count])), (a 1, .inl (cy 0, 60, .inl v_signs)), (b 0, .inr (0, [.int o_kind, .int o_place, .int o_otherPlace, .int o_watcher, .int o_number]))] s.heap.size = A at hD hQ
  have hA : ∀ q : Nat, s.heap.size ≤ q → A q := fun q h => by rw [← hAe]; exact Or.inr h
  have hS : va_S A s.heap s.heap [] := va_S.rf
  have hown : s.vm.findClass RX3 = some m.cls := hown
  have hl : lv_has ls 4 [(0, .ref (a 0)), (1, .int p1), (2, .ref (b 0))] := hl
  unfold f_D_readAct at h
  have J_137 : ∀ (x3 : Int32) (o_kind : Int32) (o_place : Int32) (o_otherPlace : Int32) (o_watcher : Int32) (o_number : Int32) (H : Heap) (locs : List Loc) (hP : va_P D vwCl [(a 0, .inr (2, [.ref (a 1), .int v_count])), (a 1, .inl (cy 0, 60, .inl v_signs)), (b 0, .inr (0, [.int o_kind, .int o_place, .int o_otherPlace, .int o_watcher, .int o_number]))] H) (hD : va_D A [(a 0, .inr (2, [.ref (a 1), .int v_count])), (a 1, .inl (cy 0, 60, .inl v_signs)), (b 0, .inr (0, [.int o_kind, .int o_place, .int o_otherPlace, .int o_watcher, .int o_number]))]) (hS : va_S A s.heap H locs) (ls : Array Slot) (hl : lv_has ls 4 [(3, .int x3)]) (h : jn_D_readAct_137 x3 v_signs o_kind o_place o_otherPlace o_watcher o_number = some u), W p l e rm_D_readAct s m [.ref (a 0), .int p1, .ref (b 0)].toArray below meth c H locs 0 0 Q (F0 m 137 ls []) := by
    intro x3 o_kind o_place o_otherPlace o_watcher o_number H locs hP hD hS ls hl h
    unfold jn_D_readAct_137 at h
    refine lv_iload_n hx hb dX3_readAct_137 rfl (lv_at hl 0 rfl) ?_
    obtain ⟨u_138, h_138, h⟩ := kk_b h
    refine kk_si (va_runS (As := [.int x3]) (rest := []) ⟨hx, hb, hml, hown, hts⟩ (c_D_lengthOf l x3 u_138 h_138) (va_cwS 1 hts gX3_readAct_X3_lengthOf rfl rfl rfl nd_D_lengthOf ⟨Nat.le_of_ble_eq_true rfl, Nat.le_of_ble_eq_true rfl⟩) (kk_preS hE.2) rfl rfl hl.1 rfl (lv_room (Nat.le_of_ble_eq_true rfl)) dX3_readAct_138 ⟨Nat.zero_le _, Nat.zero_le _⟩) ?_
    exact kk_rwi (wf := wo_D_readAct cy a b v_count v_signs) (rf := fun u => u.1) hx hb hr hlocks h hQ rfl hP hD hS dX3_readAct_141
  refine lv_aload_n hx hb dX3_readAct_0 rfl (lv_at hl 0 rfl) ?_
  refine lv_iload_n hx hb dX3_readAct_1 rfl (lv_at hl 1 rfl) ?_
  obtain ⟨u_2, h_2, h⟩ := kk_b h
  refine kk_si (va_runV (As := [.int p1]) (rest := []) ⟨hx, hb, hml, hown, hts⟩ (c_D_signAt l D cy a p1 v_count v_signs u_2 h_2) (cwV 1 hts gX3_readAct_X3_signAt rfl rfl rfl nv_D_signAt ⟨Nat.le_of_ble_eq_true rfl, Nat.le_of_ble_eq_true rfl⟩) (kk_preRV hE (hP.sub [0, 1] rfl) (q0 := 0) (ci := 2) rfl rfl) rfl rfl hl.1 rfl (lv_room (Nat.le_of_ble_eq_true rfl)) dX3_readAct_2 ⟨Nat.zero_le _, Nat.zero_le _⟩) ?_
  refine lv_istore_n (lv' := [(3, .int u_2), (0, .ref (a 0)), (1, .int p1), (2, .ref (b 0))]) hx hb dX3_readAct_5 rfl hl (by decide) rfl (fun ls hl => ?_)
  refine lv_iload_n hx hb dX3_readAct_6 rfl (lv_at hl 0 rfl) ?_
  by_cases c_7_0 : u_2 = 46
  · have h := kk_t c_7_0 h
    refine lv_lookup (off := 99) (tgt := 106) hx hb dX3_readAct_7 (by decide) (by rw [c_7_0]; decide) (by decide) ?_
    refine lv_aload_n hx hb dX3_readAct_106 rfl (lv_at hl 3 rfl) ?_
    refine lv_iconst (v := 4) hx hb dX3_readAct_107 (by decide) ?_
    refine lv_iconst (v := 0) hx hb dX3_readAct_108 (by decide) ?_
    obtain ⟨u_109, h_109, h⟩ := kk_b h
    refine kk_wv (wn := [(a 0, .inr (2, [.ref (a 1), .int v_count])), (a 1, .inl (cy 0, 60, .inl v_signs)), (b 0, .inr (0, [.int u_109.1, .int u_109.2, .int o_otherPlace, .int o_watcher, .int o_number]))]) (va_runV (As := [.int 4, .int 0]) (rest := []) ⟨hx, hb, hml, hown, hts⟩ (c_A_setAt l D cy b _ 4 0 o_kind o_place o_otherPlace o_watcher o_number u_109 h_109) (cwV 2 hts gX3_readAct_X0_setAt rfl rfl rfl nv_A_setAt ⟨Nat.le_of_ble_eq_true rfl, Nat.le_of_ble_eq_true rfl⟩) (kk_preWV hE (hP.sub [2] rfl) (hD.sub [2] (by decide) rfl) (q0 := 0) (ci := 0) rfl rfl) rfl rfl hl.1 rfl (lv_room (Nat.le_of_ble_eq_true rfl)) dX3_readAct_109 ⟨Nat.zero_le _, Nat.zero_le _⟩) hP hD hS hA [2] [0, 1] [0, 1, 2] rfl rfl (by decide) (by decide) (by decide) rfl (fun H locs hP hD hS => ?_)
    refine lv_goto (tgt := 137) hx hb dX3_readAct_112 (by decide) ?_
    exact J_137 u_2 u_109.1 u_109.2 o_otherPlace o_watcher o_number _ _ hP hD hS _ (lv_sub hl [0] rfl) h
  · have h := kk_f c_7_0 h
    by_cases c_7_1 : u_2 = 104
    · have h := kk_t c_7_1 h
      refine lv_lookup (off := 84) (tgt := 91) hx hb dX3_readAct_7 (by decide) (by rw [c_7_1]; decide) (by decide) ?_
      refine lv_aload_n hx hb dX3_readAct_91 rfl (lv_at hl 3 rfl) ?_
      refine lv_iconst (v := 2) hx hb dX3_readAct_92 (by decide) ?_
      refine lv_aload_n hx hb dX3_readAct_93 rfl (lv_at hl 1 rfl) ?_
      refine lv_iload_n hx hb dX3_readAct_94 rfl (lv_at hl 2 rfl) ?_
      refine lv_iconst (v := 1) hx hb dX3_readAct_95 (by decide) ?_
      refine lv_iadd hx hb dX3_readAct_96 ?_
      obtain ⟨u_97, h_97, h⟩ := kk_b h
      refine kk_si (va_runV (As := [.int (p1 + 1)]) (rest := [.int 2, .ref (b 0)]) ⟨hx, hb, hml, hown, hts⟩ (c_D_digitAt l D cy a (p1 + 1) v_count v_signs u_97 h_97) (cwV 1 hts gX3_readAct_X3_digitAt rfl rfl rfl nv_D_digitAt ⟨Nat.le_of_ble_eq_true rfl, Nat.le_of_ble_eq_true rfl⟩) (kk_preRV hE (hP.sub [0, 1] rfl) (q0 := 0) (ci := 2) rfl rfl) rfl rfl hl.1 rfl (lv_room (Nat.le_of_ble_eq_true rfl)) dX3_readAct_97 ⟨Nat.zero_le _, Nat.zero_le _⟩) ?_
      obtain ⟨u_100, h_100, h⟩ := kk_b h
      refine kk_wv (wn := [(a 0, .inr (2, [.ref (a 1), .int v_count])), (a 1, .inl (cy 0, 60, .inl v_signs)), (b 0, .inr (0, [.int u_100.1, .int u_100.2, .int o_otherPlace, .int o_watcher, .int o_number]))]) (va_runV (As := [.int 2, .int u_97]) (rest := []) ⟨hx, hb, hml, hown, hts⟩ (c_A_setAt l D cy b _ 2 u_97 o_kind o_place o_otherPlace o_watcher o_number u_100 h_100) (cwV 2 hts gX3_readAct_X0_setAt rfl rfl rfl nv_A_setAt ⟨Nat.le_of_ble_eq_true rfl, Nat.le_of_ble_eq_true rfl⟩) (kk_preWV hE (hP.sub [2] rfl) (hD.sub [2] (by decide) rfl) (q0 := 0) (ci := 0) rfl rfl) rfl rfl hl.1 rfl (lv_room (Nat.le_of_ble_eq_true rfl)) dX3_readAct_100 ⟨Nat.zero_le _, Nat.zero_le _⟩) hP hD hS hA [2] [0, 1] [0, 1, 2] rfl rfl (by decide) (by decide) (by decide) rfl (fun H locs hP hD hS => ?_)
      refine lv_goto (tgt := 137) hx hb dX3_readAct_103 (by decide) ?_
      exact J_137 u_2 u_100.1 u_100.2 o_otherPlace o_watcher o_number _ _ hP hD hS _ (lv_sub hl [0] rfl) h
    · have h := kk_f c_7_1 h
      by_cases c_7_2 : u_2 = 108
      · have h := kk_t c_7_2 h
        refine lv_lookup (off := 69) (tgt := 76) hx hb dX3_readAct_7 (by decide) (by rw [c_7_2]; decide) (by decide) ?_
        refine lv_aload_n hx hb dX3_readAct_76 rfl (lv_at hl 3 rfl) ?_
        refine lv_iconst (v := 1) hx hb dX3_readAct_77 (by decide) ?_
        refine lv_aload_n hx hb dX3_readAct_78 rfl (lv_at hl 1 rfl) ?_
        refine lv_iload_n hx hb dX3_readAct_79 rfl (lv_at hl 2 rfl) ?_
        refine lv_iconst (v := 1) hx hb dX3_readAct_80 (by decide) ?_
        refine lv_iadd hx hb dX3_readAct_81 ?_
        obtain ⟨u_82, h_82, h⟩ := kk_b h
        refine kk_si (va_runV (As := [.int (p1 + 1)]) (rest := [.int 1, .ref (b 0)]) ⟨hx, hb, hml, hown, hts⟩ (c_D_digitAt l D cy a (p1 + 1) v_count v_signs u_82 h_82) (cwV 1 hts gX3_readAct_X3_digitAt rfl rfl rfl nv_D_digitAt ⟨Nat.le_of_ble_eq_true rfl, Nat.le_of_ble_eq_true rfl⟩) (kk_preRV hE (hP.sub [0, 1] rfl) (q0 := 0) (ci := 2) rfl rfl) rfl rfl hl.1 rfl (lv_room (Nat.le_of_ble_eq_true rfl)) dX3_readAct_82 ⟨Nat.zero_le _, Nat.zero_le _⟩) ?_
        obtain ⟨u_85, h_85, h⟩ := kk_b h
        refine kk_wv (wn := [(a 0, .inr (2, [.ref (a 1), .int v_count])), (a 1, .inl (cy 0, 60, .inl v_signs)), (b 0, .inr (0, [.int u_85.1, .int u_85.2, .int o_otherPlace, .int o_watcher, .int o_number]))]) (va_runV (As := [.int 1, .int u_82]) (rest := []) ⟨hx, hb, hml, hown, hts⟩ (c_A_setAt l D cy b _ 1 u_82 o_kind o_place o_otherPlace o_watcher o_number u_85 h_85) (cwV 2 hts gX3_readAct_X0_setAt rfl rfl rfl nv_A_setAt ⟨Nat.le_of_ble_eq_true rfl, Nat.le_of_ble_eq_true rfl⟩) (kk_preWV hE (hP.sub [2] rfl) (hD.sub [2] (by decide) rfl) (q0 := 0) (ci := 0) rfl rfl) rfl rfl hl.1 rfl (lv_room (Nat.le_of_ble_eq_true rfl)) dX3_readAct_85 ⟨Nat.zero_le _, Nat.zero_le _⟩) hP hD hS hA [2] [0, 1] [0, 1, 2] rfl rfl (by decide) (by decide) (by decide) rfl (fun H locs hP hD hS => ?_)
        refine lv_goto (tgt := 137) hx hb dX3_readAct_88 (by decide) ?_
        exact J_137 u_2 u_85.1 u_85.2 o_otherPlace o_watcher o_number _ _ hP hD hS _ (lv_sub hl [0] rfl) h
      · have h := kk_f c_7_2 h
        by_cases c_7_3 : u_2 = 115
        · have h := kk_t c_7_3 h
          refine lv_lookup (off := 41) (tgt := 48) hx hb dX3_readAct_7 (by decide) (by rw [c_7_3]; decide) (by decide) ?_
          refine lv_aload_n hx hb dX3_readAct_48 rfl (lv_at hl 3 rfl) ?_
          refine lv_aload_n hx hb dX3_readAct_49 rfl (lv_at hl 1 rfl) ?_
          refine lv_iload_n hx hb dX3_readAct_50 rfl (lv_at hl 2 rfl) ?_
          refine lv_iconst (v := 1) hx hb dX3_readAct_51 (by decide) ?_
          refine lv_iadd hx hb dX3_readAct_52 ?_
          obtain ⟨u_53, h_53, h⟩ := kk_b h
          refine kk_si (va_runV (As := [.int (p1 + 1)]) (rest := [.ref (b 0)]) ⟨hx, hb, hml, hown, hts⟩ (c_D_digitAt l D cy a (p1 + 1) v_count v_signs u_53 h_53) (cwV 1 hts gX3_readAct_X3_digitAt rfl rfl rfl nv_D_digitAt ⟨Nat.le_of_ble_eq_true rfl, Nat.le_of_ble_eq_true rfl⟩) (kk_preRV hE (hP.sub [0, 1] rfl) (q0 := 0) (ci := 2) rfl rfl) rfl rfl hl.1 rfl (lv_room (Nat.le_of_ble_eq_true rfl)) dX3_readAct_53 ⟨Nat.zero_le _, Nat.zero_le _⟩) ?_
          refine lv_aload_n hx hb dX3_readAct_56 rfl (lv_at hl 1 rfl) ?_
          refine lv_iload_n hx hb dX3_readAct_57 rfl (lv_at hl 2 rfl) ?_
          refine lv_iconst (v := 2) hx hb dX3_readAct_58 (by decide) ?_
          refine lv_iadd hx hb dX3_readAct_59 ?_
          obtain ⟨u_60, h_60, h⟩ := kk_b h
          refine kk_si (va_runV (As := [.int (p1 + 2)]) (rest := [.int u_53, .ref (b 0)]) ⟨hx, hb, hml, hown, hts⟩ (c_D_digitAt l D cy a (p1 + 2) v_count v_signs u_60 h_60) (cwV 1 hts gX3_readAct_X3_digitAt rfl rfl rfl nv_D_digitAt ⟨Nat.le_of_ble_eq_true rfl, Nat.le_of_ble_eq_true rfl⟩) (kk_preRV hE (hP.sub [0, 1] rfl) (q0 := 0) (ci := 2) rfl rfl) rfl rfl hl.1 rfl (lv_room (Nat.le_of_ble_eq_true rfl)) dX3_readAct_60 ⟨Nat.zero_le _, Nat.zero_le _⟩) ?_
          refine lv_aload_n hx hb dX3_readAct_63 rfl (lv_at hl 1 rfl) ?_
          refine lv_iload_n hx hb dX3_readAct_64 rfl (lv_at hl 2 rfl) ?_
          refine lv_iconst (v := 3) hx hb dX3_readAct_65 (by decide) ?_
          refine lv_iadd hx hb dX3_readAct_66 ?_
          obtain ⟨u_67, h_67, h⟩ := kk_b h
          refine kk_si (va_runV (As := [.int (p1 + 3)]) (rest := [.int u_60, .int u_53, .ref (b 0)]) ⟨hx, hb, hml, hown, hts⟩ (c_D_digitAt l D cy a (p1 + 3) v_count v_signs u_67 h_67) (cwV 1 hts gX3_readAct_X3_digitAt rfl rfl rfl nv_D_digitAt ⟨Nat.le_of_ble_eq_true rfl, Nat.le_of_ble_eq_true rfl⟩) (kk_preRV hE (hP.sub [0, 1] rfl) (q0 := 0) (ci := 2) rfl rfl) rfl rfl hl.1 rfl (lv_room (Nat.le_of_ble_eq_true rfl)) dX3_readAct_67 ⟨Nat.zero_le _, Nat.zero_le _⟩) ?_
          obtain ⟨u_70, h_70, h⟩ := kk_b h
          refine kk_wv (wn := [(a 0, .inr (2, [.ref (a 1), .int v_count])), (a 1, .inl (cy 0, 60, .inl v_signs)), (b 0, .inr (0, [.int u_70.1, .int u_70.2.1, .int u_70.2.2.1, .int o_watcher, .int u_70.2.2.2]))]) (va_runV (As := [.int u_53, .int u_60, .int u_67]) (rest := []) ⟨hx, hb, hml, hown, hts⟩ (c_A_setChange l D cy b _ u_53 u_60 u_67 o_kind o_place o_otherPlace o_watcher o_number u_70 h_70) (cwV 3 hts gX3_readAct_X0_setChange rfl rfl rfl nv_A_setChange ⟨Nat.le_of_ble_eq_true rfl, Nat.le_of_ble_eq_true rfl⟩) (kk_preWV hE (hP.sub [2] rfl) (hD.sub [2] (by decide) rfl) (q0 := 0) (ci := 0) rfl rfl) rfl rfl hl.1 rfl (lv_room (Nat.le_of_ble_eq_true rfl)) dX3_readAct_70 ⟨Nat.zero_le _, Nat.zero_le _⟩) hP hD hS hA [2] [0, 1] [0, 1, 2] rfl rfl (by decide) (by decide) (by decide) rfl (fun H locs hP hD hS => ?_)
          refine lv_goto (tgt := 137) hx hb dX3_readAct_73 (by decide) ?_
          exact J_137 u_2 u_70.1 u_70.2.1 u_70.2.2.1 o_watcher u_70.2.2.2 _ _ hP hD hS _ (lv_sub hl [0] rfl) h
        · have h := kk_f c_7_3 h
          refine lv_lookup (off := 108) (tgt := 115) hx hb dX3_readAct_7 (by decide) (by first | rfl | (show Op.lookupswitch.offset [(46, 99), (104, 84), (108, 69), (115, 41)] _ _ = _; rw [lv_osw c_7_0 (by decide), lv_osw c_7_1 (by decide), lv_osw c_7_2 (by decide), lv_osw c_7_3 (by decide)]; rfl)) (by decide) ?_
          refine lv_aload_n hx hb dX3_readAct_115 rfl (lv_at hl 3 rfl) ?_
          refine lv_iload_n hx hb dX3_readAct_116 rfl (lv_at hl 0 rfl) ?_
          refine lv_bipush (v := 65) hx hb dX3_readAct_117 (by decide) ?_
          refine lv_isub hx hb dX3_readAct_119 ?_
          refine lv_aload_n hx hb dX3_readAct_120 rfl (lv_at hl 1 rfl) ?_
          refine lv_iload_n hx hb dX3_readAct_121 rfl (lv_at hl 2 rfl) ?_
          refine lv_iconst (v := 1) hx hb dX3_readAct_122 (by decide) ?_
          refine lv_iadd hx hb dX3_readAct_123 ?_
          obtain ⟨u_124, h_124, h⟩ := kk_b h
          refine kk_si (va_runV (As := [.int (p1 + 1)]) (rest := [.int (u_2 - 65), .ref (b 0)]) ⟨hx, hb, hml, hown, hts⟩ (c_D_digitAt l D cy a (p1 + 1) v_count v_signs u_124 h_124) (cwV 1 hts gX3_readAct_X3_digitAt rfl rfl rfl nv_D_digitAt ⟨Nat.le_of_ble_eq_true rfl, Nat.le_of_ble_eq_true rfl⟩) (kk_preRV hE (hP.sub [0, 1] rfl) (q0 := 0) (ci := 2) rfl rfl) rfl rfl hl.1 rfl (lv_room (Nat.le_of_ble_eq_true rfl)) dX3_readAct_124 ⟨Nat.zero_le _, Nat.zero_le _⟩) ?_
          refine lv_aload_n hx hb dX3_readAct_127 rfl (lv_at hl 1 rfl) ?_
          refine lv_iload_n hx hb dX3_readAct_128 rfl (lv_at hl 2 rfl) ?_
          refine lv_iconst (v := 2) hx hb dX3_readAct_129 (by decide) ?_
          refine lv_iadd hx hb dX3_readAct_130 ?_
          obtain ⟨u_131, h_131, h⟩ := kk_b h
          refine kk_si (va_runV (As := [.int (p1 + 2)]) (rest := [.int u_124, .int (u_2 - 65), .ref (b 0)]) ⟨hx, hb, hml, hown, hts⟩ (c_D_digitAt l D cy a (p1 + 2) v_count v_signs u_131 h_131) (cwV 1 hts gX3_readAct_X3_digitAt rfl rfl rfl nv_D_digitAt ⟨Nat.le_of_ble_eq_true rfl, Nat.le_of_ble_eq_true rfl⟩) (kk_preRV hE (hP.sub [0, 1] rfl) (q0 := 0) (ci := 2) rfl rfl) rfl rfl hl.1 rfl (lv_room (Nat.le_of_ble_eq_true rfl)) dX3_readAct_131 ⟨Nat.zero_le _, Nat.zero_le _⟩) ?_
          obtain ⟨u_134, h_134, h⟩ := kk_b h
          refine kk_wv (wn := [(a 0, .inr (2, [.ref (a 1), .int v_count])), (a 1, .inl (cy 0, 60, .inl v_signs)), (b 0, .inr (0, [.int u_134.1, .int u_134.2.1, .int o_otherPlace, .int u_134.2.2.1, .int u_134.2.2.2]))]) (va_runV (As := [.int (u_2 - 65), .int u_124, .int u_131]) (rest := []) ⟨hx, hb, hml, hown, hts⟩ (c_A_setBet l D cy b _ (u_2 - 65) u_124 u_131 o_kind o_place o_otherPlace o_watcher o_number u_134 h_134) (cwV 3 hts gX3_readAct_X0_setBet rfl rfl rfl nv_A_setBet ⟨Nat.le_of_ble_eq_true rfl, Nat.le_of_ble_eq_true rfl⟩) (kk_preWV hE (hP.sub [2] rfl) (hD.sub [2] (by decide) rfl) (q0 := 0) (ci := 0) rfl rfl) rfl rfl hl.1 rfl (lv_room (Nat.le_of_ble_eq_true rfl)) dX3_readAct_134 ⟨Nat.zero_le _, Nat.zero_le _⟩) hP hD hS hA [2] [0, 1] [0, 1, 2] rfl rfl (by decide) (by decide) (by decide) rfl (fun H locs hP hD hS => ?_)
          exact J_137 u_2 u_134.1 u_134.2.1 o_otherPlace u_134.2.2.1 u_134.2.2.2 _ _ hP hD hS _ (lv_sub hl [0] rfl) h
abbrev rm_D_append : Room := { frames := 0, cells := 0, slots := 0, locals := 0 }
theorem nv_D_append : yX3_append.cls = RX3 ∧ yX3_append.cls ≠ "java/lang/invoke/MethodHandle" ∧ yX3_append.cls ≠ "java/lang/invoke/VarHandle" ∧ (parseMethodDescriptor yX3_append.desc).map (fun d => d.parameters.length) = some 1 := by decide +kernel
abbrev wo_D_append (cy : Nat → Nat) (a : Nat → Nat) (u : Int32 × Int32 × (Nat → Int32)) : va_W := [(a 0, .inr (2, [.ref (a 1), .int u.2.1])), (a 1, .inl (cy 0, 60, .inl u.2.2))]
set_option maxHeartbeats 4000000 in
set_option maxRecDepth 100000 in
theorem c_D_append (l : Launch) (D : va_G) (cy : Nat → Nat) (a : Nat → Nat) (sz : Nat) (p1 : Int32) (v_count : Int32) (v_signs : (Nat → Int32)) (u : Int32 × Int32 × (Nat → Int32)) (h : f_D_append p1 v_count v_signs = some u) : Met l yX3_append wsX3_append rm_D_append (kk_PW D cy [(a 0, .inr (2, [.ref (a 1), .int v_count])), (a 1, .inl (cy 0, 60, .inl v_signs))] sz [.ref (a 0), .int p1]) (kk_Qi D (wo_D_append cy a u) u.1 (va_A [(a 0, .inr (2, [.ref (a 1), .int v_count])), (a 1, .inl (cy 0, 60, .inl v_signs))] sz)) 0 0 (va_A [(a 0, .inr (2, [.ref (a 1), .int v_count])), (a 1, .inl (cy 0, 60, .inl v_signs))] sz) := by
  refine kk_met (cc := cX3_append) (maxL := 2) (ret := some .boolean) (by decide) rfl (Nat.le_of_ble_eq_true rfl) ?_
  intro p e s m below meth c hx hb hr hml hts hown hlocks hB ls hl Q hQ
  obtain ⟨hsz, hP, hE, hD0⟩ := hB
  subst hsz
  have hD := hD0.self (sz := s.heap.size)
  generalize hAe : va_A [(a 0, .inr (2, [.ref (a 1), .int v_count])), (a 1, .inl (cy 0, 60, .inl v_signs))] s.heap.size = A at hD hQ
  have hA : ∀ q : Nat, s.heap.size ≤ q → A q := fun q h => by rw [← hAe]; exact Or.inr h
  have hS : va_S A s.heap s.heap [] := va_S.rf
  have hown : s.vm.findClass RX3 = some m.cls := hown
  have hl : lv_has ls 2 [(0, .ref (a 0)), (1, .int p1)] := hl
  unfold f_D_append at h
  refine lv_aload_n hx hb dX3_append_0 rfl (lv_at hl 0 rfl) ?_
  refine va_get (D := D) (ci := 2) (v := .int v_count) (C := RX3) (T := TX3) (N := 2) hx hb hts (fun _ h9 => List.mem_cons_of_mem _ (List.mem_append_right _ h9)) hown hE.1 hP 0 rfl rfl 1 (by decide) (hts (.fieldLink RX3 15 "PeaCups$Pad" "count" "I") (List.mem_of_getElem? (i := 1) rfl)) (fun _ h9 => h9) rfl dX3_append_1 ?_
  refine lv_bipush (v := 60) hx hb dX3_append_4 (by decide) ?_
  refine lv_icmp_lt (tgt := 11) hx hb dX3_append_6 (by decide) (fun c_6 => ?_) (fun c_6 => ?_)
  · have h := kk_t c_6 h
    refine lv_aload_n hx hb dX3_append_11 rfl (lv_at hl 0 rfl) ?_
    refine va_get (D := D) (ci := 2) (v := .ref (a 1)) (C := RX3) (T := TX3) (N := 2) hx hb hts (fun _ h9 => List.mem_cons_of_mem _ (List.mem_append_right _ h9)) hown hE.1 hP 0 rfl rfl 0 (by decide) (hts (.fieldLink RX3 11 "PeaCups$Pad" "signs" "[I") (List.mem_of_getElem? (i := 2) rfl)) (fun _ h9 => h9) rfl dX3_append_12 ?_
    refine lv_aload_n hx hb dX3_append_15 rfl (lv_at hl 0 rfl) ?_
    refine va_get (D := D) (ci := 2) (v := .int v_count) (C := RX3) (T := TX3) (N := 2) hx hb hts (fun _ h9 => List.mem_cons_of_mem _ (List.mem_append_right _ h9)) hown hE.1 hP 0 rfl rfl 1 (by decide) (hts (.fieldLink RX3 15 "PeaCups$Pad" "count" "I") (List.mem_of_getElem? (i := 1) rfl)) (fun _ h9 => h9) rfl dX3_append_16 ?_
    refine lv_iload_n hx hb dX3_append_19 rfl (lv_at hl 1 rfl) ?_
    obtain ⟨i_20, h⟩ := kk_x h
    refine va_iast hx hb hE.1 hP hD hS 1 0 rfl rfl i_20 dX3_append_20 (fun H locs hP hD hS => ?_)
    have hP : va_P D vwCl [(a 0, .inr (2, [.ref (a 1), .int v_count])), (a 1, .inl (cy 0, 60, .inl (upd v_signs (v_count : Int32).toNatClampNeg p1)))] H := hP
    have hD : va_D A [(a 0, .inr (2, [.ref (a 1), .int v_count])), (a 1, .inl (cy 0, 60, .inl (upd v_signs (v_count : Int32).toNatClampNeg p1)))] := hD
    refine lv_aload_n hx hb dX3_append_21 rfl (lv_at hl 0 rfl) ?_
    refine lv_dup hx hb dX3_append_22 rfl ?_
    refine va_get (D := D) (ci := 2) (v := .int v_count) (C := RX3) (T := TX3) (N := 2) hx hb hts (fun _ h9 => List.mem_cons_of_mem _ (List.mem_append_right _ h9)) hown hE.1 hP 0 rfl rfl 1 (by decide) (hts (.fieldLink RX3 15 "PeaCups$Pad" "count" "I") (List.mem_of_getElem? (i := 1) rfl)) (fun _ h9 => h9) rfl dX3_append_23 ?_
    refine lv_iconst (v := 1) hx hb dX3_append_26 (by decide) ?_
    refine lv_iadd hx hb dX3_append_27 ?_
    refine va_put (D := D) (ci := 2) (v := .int (v_count + 1)) (ty := .int) (C := RX3) (T := TX3) (N := 2) hx hb hts (fun _ h9 => List.mem_cons_of_mem _ (List.mem_append_right _ h9)) tyX3 tyX3_ok nmX3 hown hE.1 hP hD hS 0 rfl rfl 1 (by decide) (hts (.fieldLink RX3 15 "PeaCups$Pad" "count" "I") (List.mem_of_getElem? (i := 1) rfl)) (fun _ h9 => h9) rfl (by decide +kernel) rfl rfl (Nat.le_of_ble_eq_true rfl) dX3_append_28 (fun H locs hP hD hS => ?_)
    have hP : va_P D vwCl [(a 0, .inr (2, [.ref (a 1), .int (v_count + 1)])), (a 1, .inl (cy 0, 60, .inl (upd v_signs (v_count : Int32).toNatClampNeg p1)))] H := hP
    have hD : va_D A [(a 0, .inr (2, [.ref (a 1), .int (v_count + 1)])), (a 1, .inl (cy 0, 60, .inl (upd v_signs (v_count : Int32).toNatClampNeg p1)))] := hD
    refine lv_iconst (v := 1) hx hb dX3_append_31 (by decide) ?_
    exact kk_rwz (wf := wo_D_append cy a) (rf := fun u => u.1) hx hb hr hlocks h hQ rfl rfl hP hD hS dX3_append_32
  · have h := kk_f c_6 h
    refine lv_iconst (v := 0) hx hb dX3_append_9 (by decide) ?_
    exact kk_rwz (wf := wo_D_append cy a) (rf := fun u => u.1) hx hb hr hlocks h hQ rfl rfl hP hD hS dX3_append_10
abbrev rm_A_setDrawn : Room := { frames := 1, cells := 0, slots := 0, locals := 23 }
theorem nv_A_setDrawn : yX0_setDrawn.cls = RX0 ∧ yX0_setDrawn.cls ≠ "java/lang/invoke/MethodHandle" ∧ yX0_setDrawn.cls ≠ "java/lang/invoke/VarHandle" ∧ (parseMethodDescriptor yX0_setDrawn.desc).map (fun d => d.parameters.length) = some 1 := by decide +kernel
abbrev wo_A_setDrawn (cy : Nat → Nat) (a : Nat → Nat) (u : Int32 × Int32 × Int32 × Int32 × Int32) : va_W := [(a 0, .inr (0, [.int u.1, .int u.2.1, .int u.2.2.1, .int u.2.2.2.1, .int u.2.2.2.2]))]
set_option maxHeartbeats 4000000 in
set_option maxRecDepth 100000 in
theorem c_A_setDrawn (l : Launch) (D : va_G) (cy : Nat → Nat) (a : Nat → Nat) (sz : Nat) (p1 : Int32) (v_kind : Int32) (v_place : Int32) (v_otherPlace : Int32) (v_watcher : Int32) (v_number : Int32) (u : Int32 × Int32 × Int32 × Int32 × Int32) (h : f_A_setDrawn p1 v_kind v_place v_otherPlace v_watcher v_number = some u) : Met l yX0_setDrawn wsX0_setDrawn rm_A_setDrawn (kk_PW D cy [(a 0, .inr (0, [.int v_kind, .int v_place, .int v_otherPlace, .int v_watcher, .int v_number]))] sz [.ref (a 0), .int p1]) (kk_Qv D (wo_A_setDrawn cy a u) (va_A [(a 0, .inr (0, [.int v_kind, .int v_place, .int v_otherPlace, .int v_watcher, .int v_number]))] sz)) 0 0 (va_A [(a 0, .inr (0, [.int v_kind, .int v_place, .int v_otherPlace, .int v_watcher, .int v_number]))] sz) := by
  refine kk_met (cc := cX0_setDrawn) (maxL := 3) (ret := none) (by decide) rfl (Nat.le_of_ble_eq_true rfl) ?_
  intro p e s m below meth c hx hb hr hml hts hown hlocks hB ls hl Q hQ
  obtain ⟨hsz, hP, hE, hD0⟩ := hB
  subst hsz
  have hD := hD0.self (sz := s.heap.size)
  generalize hAe : va_A [(a 0, .inr (0, [.int v_kind, .int v_place, .int v_otherPlace, .int v_watcher, .int v_number]))] s.heap.size = A at hD hQ
  have hA : ∀ q : Nat, s.heap.size ≤ q → A q := fun q h => by rw [← hAe]; exact Or.inr h
  have hS : va_S A s.heap s.heap [] := va_S.rf
  have hown : s.vm.findClass RX0 = some m.cls := hown
  have hl : lv_has ls 3 [(0, .ref (a 0)), (1, .int p1)] := hl
  unfold f_A_setDrawn at h
  refine lv_iload_n hx hb dX0_setDrawn_0 rfl (lv_at hl 1 rfl) ?_
  refine lv_bipush (v := 8) hx hb dX0_setDrawn_1 (by decide) ?_
  refine lv_idiv hx hb dX0_setDrawn_3 (by decide) ?_
  refine lv_istore_n (lv' := [(2, .int (p1 / 8)), (0, .ref (a 0)), (1, .int p1)]) hx hb dX0_setDrawn_4 rfl hl (by decide) rfl (fun ls hl => ?_)
  refine lv_iload_n hx hb dX0_setDrawn_5 rfl (lv_at hl 2 rfl) ?_
  refine lv_bipush (v := 8) hx hb dX0_setDrawn_6 (by decide) ?_
  refine lv_irem hx hb dX0_setDrawn_8 (by decide) ?_
  by_cases c_9_0 : (p1 - p1 / 8 * 8) = 4
  · have h := kk_t c_9_0 h
    refine lv_tableIn (off := 31) (tgt := 40) hx hb dX0_setDrawn_9 (by rw [c_9_0]; decide) (by rw [c_9_0]; decide) (by rw [c_9_0]; decide) (by decide) ?_
    refine lv_aload_n hx hb dX0_setDrawn_40 rfl (lv_at hl 1 rfl) ?_
    refine lv_iconst (v := 1) hx hb dX0_setDrawn_41 (by decide) ?_
    refine lv_iload_n hx hb dX0_setDrawn_42 rfl (lv_at hl 0 rfl) ?_
    refine lv_bipush (v := 6) hx hb dX0_setDrawn_43 (by decide) ?_
    refine lv_irem hx hb dX0_setDrawn_45 (by decide) ?_
    obtain ⟨u_46, h_46, h⟩ := kk_b h
    refine kk_wv (wn := [(a 0, .inr (0, [.int u_46.1, .int u_46.2, .int v_otherPlace, .int v_watcher, .int v_number]))]) (va_runV (As := [.int 1, .int ((p1 / 8) - (p1 / 8) / 6 * 6)]) (rest := []) ⟨hx, hb, hml, hown, hts⟩ (c_A_setAt l D cy a _ 1 ((p1 / 8) - (p1 / 8) / 6 * 6) v_kind v_place v_otherPlace v_watcher v_number u_46 h_46) (cwV 2 hts gX0_setDrawn_X0_setAt rfl rfl rfl nv_A_setAt ⟨Nat.le_of_ble_eq_true rfl, Nat.le_of_ble_eq_true rfl⟩) (kk_preWV hE (hP.sub [0] rfl) (hD.sub [0] (by decide) rfl) (q0 := 0) (ci := 0) rfl rfl) rfl rfl hl.1 rfl (lv_room (Nat.le_of_ble_eq_true rfl)) dX0_setDrawn_46 ⟨Nat.zero_le _, Nat.zero_le _⟩) hP hD hS hA [0] [] [0] rfl rfl (by decide) (by decide) (by decide) rfl (fun H locs hP hD hS => ?_)
    refine lv_goto (tgt := 114) hx hb dX0_setDrawn_49 (by decide) ?_
    exact kk_rwv (wf := wo_A_setDrawn cy a) hx hb hr hlocks h hQ hP hD hS dX0_setDrawn_114
  · have h := kk_f c_9_0 h
    by_cases c_9_1 : (p1 - p1 / 8 * 8) = 5
    · have h := kk_t c_9_1 h
      refine lv_tableIn (off := 43) (tgt := 52) hx hb dX0_setDrawn_9 (by rw [c_9_1]; decide) (by rw [c_9_1]; decide) (by rw [c_9_1]; decide) (by decide) ?_
      refine lv_aload_n hx hb dX0_setDrawn_52 rfl (lv_at hl 1 rfl) ?_
      refine lv_iconst (v := 2) hx hb dX0_setDrawn_53 (by decide) ?_
      refine lv_iload_n hx hb dX0_setDrawn_54 rfl (lv_at hl 0 rfl) ?_
      refine lv_bipush (v := 6) hx hb dX0_setDrawn_55 (by decide) ?_
      refine lv_irem hx hb dX0_setDrawn_57 (by decide) ?_
      obtain ⟨u_58, h_58, h⟩ := kk_b h
      refine kk_wv (wn := [(a 0, .inr (0, [.int u_58.1, .int u_58.2, .int v_otherPlace, .int v_watcher, .int v_number]))]) (va_runV (As := [.int 2, .int ((p1 / 8) - (p1 / 8) / 6 * 6)]) (rest := []) ⟨hx, hb, hml, hown, hts⟩ (c_A_setAt l D cy a _ 2 ((p1 / 8) - (p1 / 8) / 6 * 6) v_kind v_place v_otherPlace v_watcher v_number u_58 h_58) (cwV 2 hts gX0_setDrawn_X0_setAt rfl rfl rfl nv_A_setAt ⟨Nat.le_of_ble_eq_true rfl, Nat.le_of_ble_eq_true rfl⟩) (kk_preWV hE (hP.sub [0] rfl) (hD.sub [0] (by decide) rfl) (q0 := 0) (ci := 0) rfl rfl) rfl rfl hl.1 rfl (lv_room (Nat.le_of_ble_eq_true rfl)) dX0_setDrawn_58 ⟨Nat.zero_le _, Nat.zero_le _⟩) hP hD hS hA [0] [] [0] rfl rfl (by decide) (by decide) (by decide) rfl (fun H locs hP hD hS => ?_)
      refine lv_goto (tgt := 114) hx hb dX0_setDrawn_61 (by decide) ?_
      exact kk_rwv (wf := wo_A_setDrawn cy a) hx hb hr hlocks h hQ hP hD hS dX0_setDrawn_114
    · have h := kk_f c_9_1 h
      by_cases c_9_2 : (p1 - p1 / 8 * 8) = 6
      · have h := kk_t c_9_2 h
        refine lv_tableIn (off := 55) (tgt := 64) hx hb dX0_setDrawn_9 (by rw [c_9_2]; decide) (by rw [c_9_2]; decide) (by rw [c_9_2]; decide) (by decide) ?_
        refine lv_aload_n hx hb dX0_setDrawn_64 rfl (lv_at hl 1 rfl) ?_
        refine lv_iload_n hx hb dX0_setDrawn_65 rfl (lv_at hl 0 rfl) ?_
        refine lv_iconst (v := 4) hx hb dX0_setDrawn_66 (by decide) ?_
        refine lv_irem hx hb dX0_setDrawn_67 (by decide) ?_
        refine lv_iload_n hx hb dX0_setDrawn_68 rfl (lv_at hl 0 rfl) ?_
        refine lv_iconst (v := 4) hx hb dX0_setDrawn_69 (by decide) ?_
        refine lv_idiv hx hb dX0_setDrawn_70 (by decide) ?_
        refine lv_bipush (v := 6) hx hb dX0_setDrawn_71 (by decide) ?_
        refine lv_irem hx hb dX0_setDrawn_73 (by decide) ?_
        refine lv_iconst (v := 1) hx hb dX0_setDrawn_74 (by decide) ?_
        obtain ⟨u_75, h_75, h⟩ := kk_b h
        refine kk_wv (wn := [(a 0, .inr (0, [.int u_75.1, .int u_75.2.1, .int v_otherPlace, .int u_75.2.2.1, .int u_75.2.2.2]))]) (va_runV (As := [.int ((p1 / 8) - (p1 / 8) / 4 * 4), .int (((p1 / 8) / 4) - ((p1 / 8) / 4) / 6 * 6), .int 1]) (rest := []) ⟨hx, hb, hml, hown, hts⟩ (c_A_setBet l D cy a _ ((p1 / 8) - (p1 / 8) / 4 * 4) (((p1 / 8) / 4) - ((p1 / 8) / 4) / 6 * 6) 1 v_kind v_place v_otherPlace v_watcher v_number u_75 h_75) (cwV 3 hts gX0_setDrawn_X0_setBet rfl rfl rfl nv_A_setBet ⟨Nat.le_of_ble_eq_true rfl, Nat.le_of_ble_eq_true rfl⟩) (kk_preWV hE (hP.sub [0] rfl) (hD.sub [0] (by decide) rfl) (q0 := 0) (ci := 0) rfl rfl) rfl rfl hl.1 rfl (lv_room (Nat.le_of_ble_eq_true rfl)) dX0_setDrawn_75 ⟨Nat.zero_le _, Nat.zero_le _⟩) hP hD hS hA [0] [] [0] rfl rfl (by decide) (by decide) (by decide) rfl (fun H locs hP hD hS => ?_)
        refine lv_goto (tgt := 114) hx hb dX0_setDrawn_78 (by decide) ?_
        exact kk_rwv (wf := wo_A_setDrawn cy a) hx hb hr hlocks h hQ hP hD hS dX0_setDrawn_114
      · have h := kk_f c_9_2 h
        by_cases c_9_3 : (p1 - p1 / 8 * 8) = 7
        · have h := kk_t c_9_3 h
          refine lv_tableIn (off := 72) (tgt := 81) hx hb dX0_setDrawn_9 (by rw [c_9_3]; decide) (by rw [c_9_3]; decide) (by rw [c_9_3]; decide) (by decide) ?_
          refine lv_aload_n hx hb dX0_setDrawn_81 rfl (lv_at hl 1 rfl) ?_
          refine lv_iconst (v := 4) hx hb dX0_setDrawn_82 (by decide) ?_
          refine lv_iconst (v := 0) hx hb dX0_setDrawn_83 (by decide) ?_
          obtain ⟨u_84, h_84, h⟩ := kk_b h
          refine kk_wv (wn := [(a 0, .inr (0, [.int u_84.1, .int u_84.2, .int v_otherPlace, .int v_watcher, .int v_number]))]) (va_runV (As := [.int 4, .int 0]) (rest := []) ⟨hx, hb, hml, hown, hts⟩ (c_A_setAt l D cy a _ 4 0 v_kind v_place v_otherPlace v_watcher v_number u_84 h_84) (cwV 2 hts gX0_setDrawn_X0_setAt rfl rfl rfl nv_A_setAt ⟨Nat.le_of_ble_eq_true rfl, Nat.le_of_ble_eq_true rfl⟩) (kk_preWV hE (hP.sub [0] rfl) (hD.sub [0] (by decide) rfl) (q0 := 0) (ci := 0) rfl rfl) rfl rfl hl.1 rfl (lv_room (Nat.le_of_ble_eq_true rfl)) dX0_setDrawn_84 ⟨Nat.zero_le _, Nat.zero_le _⟩) hP hD hS hA [0] [] [0] rfl rfl (by decide) (by decide) (by decide) rfl (fun H locs hP hD hS => ?_)
          refine lv_goto (tgt := 114) hx hb dX0_setDrawn_87 (by decide) ?_
          exact kk_rwv (wf := wo_A_setDrawn cy a) hx hb hr hlocks h hQ hP hD hS dX0_setDrawn_114
        · have h := kk_f c_9_3 h
          refine lv_tableOut (tgt := 90) hx hb dX0_setDrawn_9 (by have := lv_neT (a := 4) c_9_0 (by decide); have := lv_neT (a := 5) c_9_1 (by decide); have := lv_neT (a := 6) c_9_2 (by decide); have := lv_neT (a := 7) c_9_3 (by decide); omega) (by decide) ?_
          refine lv_aload_n hx hb dX0_setDrawn_90 rfl (lv_at hl 1 rfl) ?_
          refine lv_iload_n hx hb dX0_setDrawn_91 rfl (lv_at hl 0 rfl) ?_
          refine lv_bipush (v := 6) hx hb dX0_setDrawn_92 (by decide) ?_
          refine lv_irem hx hb dX0_setDrawn_94 (by decide) ?_
          refine lv_iload_n hx hb dX0_setDrawn_95 rfl (lv_at hl 0 rfl) ?_
          refine lv_bipush (v := 6) hx hb dX0_setDrawn_96 (by decide) ?_
          refine lv_idiv hx hb dX0_setDrawn_98 (by decide) ?_
          refine lv_bipush (v := 6) hx hb dX0_setDrawn_99 (by decide) ?_
          refine lv_irem hx hb dX0_setDrawn_101 (by decide) ?_
          refine lv_iconst (v := 1) hx hb dX0_setDrawn_102 (by decide) ?_
          refine lv_iload_n hx hb dX0_setDrawn_103 rfl (lv_at hl 0 rfl) ?_
          refine lv_bipush (v := 36) hx hb dX0_setDrawn_104 (by decide) ?_
          refine lv_idiv hx hb dX0_setDrawn_106 (by decide) ?_
          refine lv_bipush (v := 9) hx hb dX0_setDrawn_107 (by decide) ?_
          refine lv_irem hx hb dX0_setDrawn_109 (by decide) ?_
          refine lv_iadd hx hb dX0_setDrawn_110 ?_
          obtain ⟨u_111, h_111, h⟩ := kk_b h
          refine kk_wv (wn := [(a 0, .inr (0, [.int u_111.1, .int u_111.2.1, .int u_111.2.2.1, .int v_watcher, .int u_111.2.2.2]))]) (va_runV (As := [.int ((p1 / 8) - (p1 / 8) / 6 * 6), .int (((p1 / 8) / 6) - ((p1 / 8) / 6) / 6 * 6), .int (1 + (((p1 / 8) / 36) - ((p1 / 8) / 36) / 9 * 9))]) (rest := []) ⟨hx, hb, hml, hown, hts⟩ (c_A_setChange l D cy a _ ((p1 / 8) - (p1 / 8) / 6 * 6) (((p1 / 8) / 6) - ((p1 / 8) / 6) / 6 * 6) (1 + (((p1 / 8) / 36) - ((p1 / 8) / 36) / 9 * 9)) v_kind v_place v_otherPlace v_watcher v_number u_111 h_111) (cwV 3 hts gX0_setDrawn_X0_setChange rfl rfl rfl nv_A_setChange ⟨Nat.le_of_ble_eq_true rfl, Nat.le_of_ble_eq_true rfl⟩) (kk_preWV hE (hP.sub [0] rfl) (hD.sub [0] (by decide) rfl) (q0 := 0) (ci := 0) rfl rfl) rfl rfl hl.1 rfl (lv_room (Nat.le_of_ble_eq_true rfl)) dX0_setDrawn_111 ⟨Nat.zero_le _, Nat.zero_le _⟩) hP hD hS hA [0] [] [0] rfl rfl (by decide) (by decide) (by decide) rfl (fun H locs hP hD hS => ?_)
          exact kk_rwv (wf := wo_A_setDrawn cy a) hx hb hr hlocks h hQ hP hD hS dX0_setDrawn_114
