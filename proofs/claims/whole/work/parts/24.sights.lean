abbrev rm_S_heavierIn : Room := { frames := 0, cells := 0, slots := 0, locals := 0 }
theorem nd_S_heavierIn : yX5_heavierIn.cls ≠ "java/lang/invoke/MethodHandle" ∧ yX5_heavierIn.cls ≠ "java/lang/invoke/VarHandle" ∧ (parseMethodDescriptor yX5_heavierIn.desc).map (fun d => d.parameters.length) = some 3 := by decide +kernel
set_option maxHeartbeats 4000000 in
set_option maxRecDepth 100000 in
theorem c_S_heavierIn (l : Launch) (p0 : Int32) (p1 : Int32) (p2 : Int32) (u : Int32) (h : f_S_heavierIn p0 p1 p2 = some u) : Met l yX5_heavierIn wsX5_heavierIn rm_S_heavierIn (kk_PS [.int p0, .int p1, .int p2]) (vp_Si (fun r => r = u)) 0 0 (fun _ => False) := by
  refine kk_met (cc := cX5_heavierIn) (maxL := 5) (ret := some .int) (by decide) rfl (Nat.le_of_ble_eq_true rfl) ?_
  intro p e s m below meth c hx hb hr hml hts hown hlocks hB ls hl Q hQ
  have hN := hB
  have hown : s.vm.findClass RX5 = some m.cls := hown
  have hl : lv_has ls 5 [(0, .int p0), (1, .int p1), (2, .int p2)] := hl
  unfold f_S_heavierIn at h
  have J_24 : ∀ (x1 : Int32) (x2 : Int32) (x3 : Int32) (y0 : Int32) (ls : Array Slot) (hl : lv_has ls 5 [(1, .int x1), (2, .int x2), (3, .int x3)]) (h : jn_S_heavierIn_24 x1 x2 x3 y0 = some u), W p l e rm_S_heavierIn s m [.int p0, .int p1, .int p2].toArray below meth c s.heap [] 0 0 Q (F0 m 24 ls [.int y0]) := by
    intro x1 x2 x3 y0 ls hl h
    unfold jn_S_heavierIn_24 at h
    refine lv_istore (lv' := [(4, .int y0), (1, .int x1), (2, .int x2), (3, .int x3)]) hx hb dX5_heavierIn_24 hl (by decide) rfl (fun ls hl => ?_)
    refine lv_iload_n hx hb dX5_heavierIn_26 rfl (lv_at hl 1 rfl) ?_
    refine lv_iload_n hx hb dX5_heavierIn_27 rfl (lv_at hl 3 rfl) ?_
    refine lv_ishr hx hb dX5_heavierIn_28 ?_
    refine lv_iconst (v := 1) hx hb dX5_heavierIn_29 (by decide) ?_
    refine lv_iand hx hb dX5_heavierIn_30 ?_
    refine lv_iconst (v := 1) hx hb dX5_heavierIn_31 (by decide) ?_
    refine lv_icmp_ne (tgt := 46) hx hb dX5_heavierIn_32 (by decide) (fun c_32 => ?_) (fun c_32 => ?_)
    · have h := kk_f c_32 h
      refine lv_iload_n hx hb dX5_heavierIn_46 rfl (lv_at hl 2 rfl) ?_
      refine lv_iload_n hx hb dX5_heavierIn_47 rfl (lv_at hl 3 rfl) ?_
      refine lv_ishr hx hb dX5_heavierIn_48 ?_
      refine lv_iconst (v := 1) hx hb dX5_heavierIn_49 (by decide) ?_
      refine lv_iand hx hb dX5_heavierIn_50 ?_
      refine lv_iconst (v := 1) hx hb dX5_heavierIn_51 (by decide) ?_
      refine lv_icmp_ne (tgt := 66) hx hb dX5_heavierIn_52 (by decide) (fun c_52 => ?_) (fun c_52 => ?_)
      · have h := kk_f c_52 h
        refine lv_iconst (v := 0) hx hb dX5_heavierIn_66 (by decide) ?_
        exact kk_ri hx hb hr hlocks hQ h dX5_heavierIn_67
      · have h := kk_t c_52 h
        refine lv_iload hx hb dX5_heavierIn_55 (lv_at hl 0 rfl) ?_
        refine lv_if_eq (tgt := 64) hx hb dX5_heavierIn_57 (by decide) (fun c_57 => ?_) (fun c_57 => ?_)
        · have h := kk_t c_57 h
          refine lv_iconst (v := 1) hx hb dX5_heavierIn_64 (by decide) ?_
          exact kk_ri hx hb hr hlocks hQ h dX5_heavierIn_65
        · have h := kk_f c_57 h
          refine lv_iconst (v := 2) hx hb dX5_heavierIn_60 (by decide) ?_
          refine lv_goto (tgt := 65) hx hb dX5_heavierIn_61 (by decide) ?_
          exact kk_ri hx hb hr hlocks hQ h dX5_heavierIn_65
    · have h := kk_t c_32 h
      refine lv_iload hx hb dX5_heavierIn_35 (lv_at hl 0 rfl) ?_
      refine lv_if_eq (tgt := 44) hx hb dX5_heavierIn_37 (by decide) (fun c_37 => ?_) (fun c_37 => ?_)
      · have h := kk_t c_37 h
        refine lv_iconst (v := 2) hx hb dX5_heavierIn_44 (by decide) ?_
        exact kk_ri hx hb hr hlocks hQ h dX5_heavierIn_45
      · have h := kk_f c_37 h
        refine lv_iconst (v := 1) hx hb dX5_heavierIn_40 (by decide) ?_
        refine lv_goto (tgt := 45) hx hb dX5_heavierIn_41 (by decide) ?_
        exact kk_ri hx hb hr hlocks hQ h dX5_heavierIn_45
  refine lv_iload_n hx hb dX5_heavierIn_0 rfl (lv_at hl 0 rfl) ?_
  refine lv_if_ne (tgt := 6) hx hb dX5_heavierIn_1 (by decide) (fun c_1 => ?_) (fun c_1 => ?_)
  · have h := kk_f c_1 h
    refine lv_iload_n hx hb dX5_heavierIn_6 rfl (lv_at hl 0 rfl) ?_
    refine lv_iconst (v := 1) hx hb dX5_heavierIn_7 (by decide) ?_
    refine lv_isub hx hb dX5_heavierIn_8 ?_
    refine lv_bipush (v := 12) hx hb dX5_heavierIn_9 (by decide) ?_
    refine lv_irem hx hb dX5_heavierIn_11 (by decide) ?_
    refine lv_istore_n (lv' := [(3, .int ((p0 - 1) - (p0 - 1) / 12 * 12)), (0, .int p0), (1, .int p1), (2, .int p2)]) hx hb dX5_heavierIn_12 rfl hl (by decide) rfl (fun ls hl => ?_)
    refine lv_iload_n hx hb dX5_heavierIn_13 rfl (lv_at hl 1 rfl) ?_
    refine lv_bipush (v := 12) hx hb dX5_heavierIn_14 (by decide) ?_
    refine lv_icmp_gt (tgt := 23) hx hb dX5_heavierIn_16 (by decide) (fun c_16 => ?_) (fun c_16 => ?_)
    · have h := kk_t c_16 h
      refine lv_iconst (v := 0) hx hb dX5_heavierIn_23 (by decide) ?_
      exact J_24 p1 p2 ((p0 - 1) - (p0 - 1) / 12 * 12) 0 _ (lv_sub hl [2, 3, 0] rfl) h
    · have h := kk_f c_16 h
      refine lv_iconst (v := 1) hx hb dX5_heavierIn_19 (by decide) ?_
      refine lv_goto (tgt := 24) hx hb dX5_heavierIn_20 (by decide) ?_
      exact J_24 p1 p2 ((p0 - 1) - (p0 - 1) / 12 * 12) 1 _ (lv_sub hl [2, 3, 0] rfl) h
  · have h := kk_t c_1 h
    refine lv_iconst (v := 0) hx hb dX5_heavierIn_4 (by decide) ?_
    exact kk_ri hx hb hr hlocks hQ h dX5_heavierIn_5
abbrev rm_S_isFitting : Room := { frames := 1, cells := 0, slots := 0, locals := 24 }
theorem nv_S_isFitting : yX5_isFitting.cls = RX5 ∧ yX5_isFitting.cls ≠ "java/lang/invoke/MethodHandle" ∧ yX5_isFitting.cls ≠ "java/lang/invoke/VarHandle" ∧ (parseMethodDescriptor yX5_isFitting.desc).map (fun d => d.parameters.length) = some 1 := by decide +kernel
set_option maxHeartbeats 4000000 in
set_option maxRecDepth 100000 in
theorem c_S_isFitting (l : Launch) (D : va_G) (cy : Nat → Nat) (a : Nat → Nat) (p1 : Int32) (v_count : Int32) (v_ones : (Nat → Int32)) (v_others : (Nat → Int32)) (v_heavier : (Nat → Int32)) (u : Int32) (h : f_S_isFitting p1 v_count v_ones v_others v_heavier = some u) : Met l yX5_isFitting wsX5_isFitting rm_S_isFitting (kk_PR D cy [(a 0, .inr (4, [.ref (a 1), .ref (a 2), .ref (a 3), .int v_count])), (a 1, .inl (cy 0, 8, .inl v_ones)), (a 2, .inl (cy 0, 8, .inl v_others)), (a 3, .inl (cy 0, 8, .inl v_heavier))] [.ref (a 0), .int p1]) (vp_Si (fun r => r = u)) 0 0 (fun _ => False) := by
  refine kk_met (cc := cX5_isFitting) (maxL := 3) (ret := some .boolean) (by decide) rfl (Nat.le_of_ble_eq_true rfl) ?_
  intro p e s m below meth c hx hb hr hml hts hown hlocks hB ls hl Q hQ
  obtain ⟨hP, hE⟩ := hB
  have hown : s.vm.findClass RX5 = some m.cls := hown
  have hl : lv_has ls 3 [(0, .ref (a 0)), (1, .int p1)] := hl
  unfold f_S_isFitting at h
  have L_2 : ∀ (x1 : Int32) (n_2 : Nat) (x2 : Int32) (ls : Array Slot) (hl : lv_has ls 3 [(0, .ref (a 0)), (1, .int x1), (2, .int x2)]) (h : it1 (bd_S_isFitting_2 x1 v_count v_ones v_others v_heavier) n_2 x2 = some u), W p l e rm_S_isFitting s m [.ref (a 0), .int p1].toArray below meth c s.heap [] 0 0 Q (F0 m 2 ls []) := by
    intro x1 n_2
    induction n_2 with
    | zero => intro x2 ls hl h; exact kk_no h
    | succ n_2 ih_2 =>
      intro x2 ls hl h
      have h : bd_S_isFitting_2 x1 v_count v_ones v_others v_heavier (it1 (bd_S_isFitting_2 x1 v_count v_ones v_others v_heavier) n_2) x2 = some u := h
      unfold bd_S_isFitting_2 at h
      refine lv_iload_n hx hb dX5_isFitting_2 rfl (lv_at hl 2 rfl) ?_
      refine lv_aload_n hx hb dX5_isFitting_3 rfl (lv_at hl 0 rfl) ?_
      refine va_get (D := D) (ci := 4) (v := .int v_count) (C := RX5) (T := TX5) (N := 4) hx hb hts (fun _ h9 => List.mem_cons_of_mem _ (List.mem_append_right _ h9)) hown hE.1 hP 0 rfl rfl 3 (by decide) (hts (.fieldLink RX5 31 "PeaCups$Sights" "count" "I") (List.mem_of_getElem? (i := 1) rfl)) (fun _ h9 => h9) rfl dX5_isFitting_4 ?_
      refine lv_icmp_ge (tgt := 49) hx hb dX5_isFitting_7 (by decide) (fun c_7 => ?_) (fun c_7 => ?_)
      · have h := kk_t c_7 h
        refine lv_iconst (v := 1) hx hb dX5_isFitting_49 (by decide) ?_
        exact kk_rz hx hb hr hlocks hQ rfl h dX5_isFitting_50
      · have h := kk_f c_7 h
        refine lv_iload_n hx hb dX5_isFitting_10 rfl (lv_at hl 2 rfl) ?_
        refine lv_bipush (v := 8) hx hb dX5_isFitting_11 (by decide) ?_
        refine lv_icmp_ge (tgt := 49) hx hb dX5_isFitting_13 (by decide) (fun c_13 => ?_) (fun c_13 => ?_)
        · have h := kk_t c_13 h
          refine lv_iconst (v := 1) hx hb dX5_isFitting_49 (by decide) ?_
          exact kk_rz hx hb hr hlocks hQ rfl h dX5_isFitting_50
        · have h := kk_f c_13 h
          refine lv_iload_n hx hb dX5_isFitting_16 rfl (lv_at hl 1 rfl) ?_
          refine lv_aload_n hx hb dX5_isFitting_17 rfl (lv_at hl 0 rfl) ?_
          refine va_get (D := D) (ci := 4) (v := .ref (a 1)) (C := RX5) (T := TX5) (N := 4) hx hb hts (fun _ h9 => List.mem_cons_of_mem _ (List.mem_append_right _ h9)) hown hE.1 hP 0 rfl rfl 0 (by decide) (hts (.fieldLink RX5 11 "PeaCups$Sights" "ones" "[I") (List.mem_of_getElem? (i := 2) rfl)) (fun _ h9 => h9) rfl dX5_isFitting_18 ?_
          refine lv_iload_n hx hb dX5_isFitting_21 rfl (lv_at hl 2 rfl) ?_
          obtain ⟨i_22, h⟩ := kk_x h
          refine va_iald hx hb hE.1 hP 1 0 rfl rfl i_22 dX5_isFitting_22 ?_
          refine lv_aload_n hx hb dX5_isFitting_23 rfl (lv_at hl 0 rfl) ?_
          refine va_get (D := D) (ci := 4) (v := .ref (a 2)) (C := RX5) (T := TX5) (N := 4) hx hb hts (fun _ h9 => List.mem_cons_of_mem _ (List.mem_append_right _ h9)) hown hE.1 hP 0 rfl rfl 1 (by decide) (hts (.fieldLink RX5 15 "PeaCups$Sights" "others" "[I") (List.mem_of_getElem? (i := 3) rfl)) (fun _ h9 => h9) rfl dX5_isFitting_24 ?_
          refine lv_iload_n hx hb dX5_isFitting_27 rfl (lv_at hl 2 rfl) ?_
          obtain ⟨i_28, h⟩ := kk_x h
          refine va_iald hx hb hE.1 hP 2 0 rfl rfl i_28 dX5_isFitting_28 ?_
          obtain ⟨u_29, h_29, h⟩ := kk_b h
          refine kk_si (va_runS (As := [.int x1, .int (v_ones (x2 : Int32).toNatClampNeg), .int (v_others (x2 : Int32).toNatClampNeg)]) (rest := []) ⟨hx, hb, hml, hown, hts⟩ (c_S_heavierIn l x1 (v_ones (x2 : Int32).toNatClampNeg) (v_others (x2 : Int32).toNatClampNeg) u_29 h_29) (va_cwS 3 hts gX5_isFitting_X5_heavierIn rfl rfl rfl nd_S_heavierIn ⟨Nat.le_of_ble_eq_true rfl, Nat.le_of_ble_eq_true rfl⟩) (kk_preS hE.2) rfl rfl hl.1 rfl (lv_room (Nat.le_of_ble_eq_true rfl)) dX5_isFitting_29 ⟨Nat.zero_le _, Nat.zero_le _⟩) ?_
          refine lv_aload_n hx hb dX5_isFitting_32 rfl (lv_at hl 0 rfl) ?_
          refine va_get (D := D) (ci := 4) (v := .ref (a 3)) (C := RX5) (T := TX5) (N := 4) hx hb hts (fun _ h9 => List.mem_cons_of_mem _ (List.mem_append_right _ h9)) hown hE.1 hP 0 rfl rfl 2 (by decide) (hts (.fieldLink RX5 18 "PeaCups$Sights" "heavier" "[I") (List.mem_of_getElem? (i := 4) rfl)) (fun _ h9 => h9) rfl dX5_isFitting_33 ?_
          refine lv_iload_n hx hb dX5_isFitting_36 rfl (lv_at hl 2 rfl) ?_
          obtain ⟨i_37, h⟩ := kk_x h
          refine va_iald hx hb hE.1 hP 3 0 rfl rfl i_37 dX5_isFitting_37 ?_
          refine lv_icmp_eq (tgt := 43) hx hb dX5_isFitting_38 (by decide) (fun c_38 => ?_) (fun c_38 => ?_)
          · have h := kk_t c_38 h
            refine lv_iinc (v := x2 + 1) (lv' := [(2, .int (x2 + 1)), (0, .ref (a 0)), (1, .int x1)]) hx hb dX5_isFitting_43 hl (k := 2) rfl rfl (by decide) rfl (fun ls hl => ?_)
            refine lv_goto (tgt := 2) hx hb dX5_isFitting_46 (by decide) ?_
            exact ih_2 (x2 + 1) _ (lv_sub hl [1, 2, 0] rfl) h
          · have h := kk_f c_38 h
            refine lv_iconst (v := 0) hx hb dX5_isFitting_41 (by decide) ?_
            exact kk_rz hx hb hr hlocks hQ rfl h dX5_isFitting_42
  refine lv_iconst (v := 0) hx hb dX5_isFitting_0 (by decide) ?_
  refine lv_istore_n (lv' := [(2, .int 0), (0, .ref (a 0)), (1, .int p1)]) hx hb dX5_isFitting_1 rfl hl (by decide) rfl (fun ls hl => ?_)
  exact L_2 p1 _ 0 _ (lv_sub hl [1, 2, 0] rfl) h
abbrev rm_S_fittingCases : Room := { frames := 2, cells := 0, slots := 0, locals := 46 }
theorem nv_S_fittingCases : yX5_fittingCases.cls = RX5 ∧ yX5_fittingCases.cls ≠ "java/lang/invoke/MethodHandle" ∧ yX5_fittingCases.cls ≠ "java/lang/invoke/VarHandle" ∧ (parseMethodDescriptor yX5_fittingCases.desc).map (fun d => d.parameters.length) = some 0 := by decide +kernel
set_option maxHeartbeats 4000000 in
set_option maxRecDepth 100000 in
theorem c_S_fittingCases (l : Launch) (D : va_G) (cy : Nat → Nat) (a : Nat → Nat) (v_count : Int32) (v_ones : (Nat → Int32)) (v_others : (Nat → Int32)) (v_heavier : (Nat → Int32)) (u : Int32) (h : f_S_fittingCases v_count v_ones v_others v_heavier = some u) : Met l yX5_fittingCases wsX5_fittingCases rm_S_fittingCases (kk_PR D cy [(a 0, .inr (4, [.ref (a 1), .ref (a 2), .ref (a 3), .int v_count])), (a 1, .inl (cy 0, 8, .inl v_ones)), (a 2, .inl (cy 0, 8, .inl v_others)), (a 3, .inl (cy 0, 8, .inl v_heavier))] [.ref (a 0)]) (vp_Si (fun r => r = u)) 0 0 (fun _ => False) := by
  refine kk_met (cc := cX5_fittingCases) (maxL := 3) (ret := some .int) (by decide) rfl (Nat.le_of_ble_eq_true rfl) ?_
  intro p e s m below meth c hx hb hr hml hts hown hlocks hB ls hl Q hQ
  obtain ⟨hP, hE⟩ := hB
  have hown : s.vm.findClass RX5 = some m.cls := hown
  have hl : lv_has ls 3 [(0, .ref (a 0))] := hl
  unfold f_S_fittingCases at h
  have L_4 : ∀ (n_4 : Nat) (x1 : Int32) (x2 : Int32) (ls : Array Slot) (hl : lv_has ls 3 [(0, .ref (a 0)), (1, .int x1), (2, .int x2)]) (h : it2 (bd_S_fittingCases_4 v_count v_ones v_others v_heavier) n_4 x1 x2 = some u), W p l e rm_S_fittingCases s m [.ref (a 0)].toArray below meth c s.heap [] 0 0 Q (F0 m 4 ls []) := by
    intro n_4
    induction n_4 with
    | zero => intro x1 x2 ls hl h; exact kk_no h
    | succ n_4 ih_4 =>
      intro x1 x2 ls hl h
      have h : bd_S_fittingCases_4 v_count v_ones v_others v_heavier (it2 (bd_S_fittingCases_4 v_count v_ones v_others v_heavier) n_4) x1 x2 = some u := h
      unfold bd_S_fittingCases_4 at h
      refine lv_iload_n hx hb dX5_fittingCases_4 rfl (lv_at hl 2 rfl) ?_
      refine lv_bipush (v := 24) hx hb dX5_fittingCases_5 (by decide) ?_
      refine lv_icmp_gt (tgt := 27) hx hb dX5_fittingCases_7 (by decide) (fun c_7 => ?_) (fun c_7 => ?_)
      · have h := kk_t c_7 h
        refine lv_iload_n hx hb dX5_fittingCases_27 rfl (lv_at hl 1 rfl) ?_
        exact kk_ri hx hb hr hlocks hQ h dX5_fittingCases_28
      · have h := kk_f c_7 h
        refine lv_aload_n hx hb dX5_fittingCases_10 rfl (lv_at hl 0 rfl) ?_
        refine lv_iload_n hx hb dX5_fittingCases_11 rfl (lv_at hl 2 rfl) ?_
        obtain ⟨u_12, h_12, h⟩ := kk_b h
        refine kk_si (va_runV (As := [.int x2]) (rest := []) ⟨hx, hb, hml, hown, hts⟩ (c_S_isFitting l D cy a x2 v_count v_ones v_others v_heavier u_12 h_12) (cwV 1 hts gX5_fittingCases_X5_isFitting rfl rfl rfl nv_S_isFitting ⟨Nat.le_of_ble_eq_true rfl, Nat.le_of_ble_eq_true rfl⟩) (kk_preRV hE (hP.sub [0, 1, 2, 3] rfl) (q0 := 0) (ci := 4) rfl rfl) rfl rfl hl.1 rfl (lv_room (Nat.le_of_ble_eq_true rfl)) dX5_fittingCases_12 ⟨Nat.zero_le _, Nat.zero_le _⟩) ?_
        refine lv_if_eq (tgt := 21) hx hb dX5_fittingCases_15 (by decide) (fun c_15 => ?_) (fun c_15 => ?_)
        · have h := kk_t c_15 h
          refine lv_iinc (v := x2 + 1) (lv' := [(2, .int (x2 + 1)), (0, .ref (a 0)), (1, .int x1)]) hx hb dX5_fittingCases_21 hl (k := 2) rfl rfl (by decide) rfl (fun ls hl => ?_)
          refine lv_goto (tgt := 4) hx hb dX5_fittingCases_24 (by decide) ?_
          exact ih_4 x1 (x2 + 1) _ (lv_sub hl [1, 2, 0] rfl) h
        · have h := kk_f c_15 h
          refine lv_iinc (v := x1 + 1) (lv' := [(1, .int (x1 + 1)), (0, .ref (a 0)), (2, .int x2)]) hx hb dX5_fittingCases_18 hl (k := 1) rfl rfl (by decide) rfl (fun ls hl => ?_)
          refine lv_iinc (v := x2 + 1) (lv' := [(2, .int (x2 + 1)), (1, .int (x1 + 1)), (0, .ref (a 0))]) hx hb dX5_fittingCases_21 hl (k := 2) rfl rfl (by decide) rfl (fun ls hl => ?_)
          refine lv_goto (tgt := 4) hx hb dX5_fittingCases_24 (by decide) ?_
          exact ih_4 (x1 + 1) (x2 + 1) _ (lv_sub hl [2, 1, 0] rfl) h
  refine lv_iconst (v := 0) hx hb dX5_fittingCases_0 (by decide) ?_
  refine lv_istore_n (lv' := [(1, .int 0), (0, .ref (a 0))]) hx hb dX5_fittingCases_1 rfl hl (by decide) rfl (fun ls hl => ?_)
  refine lv_iconst (v := 0) hx hb dX5_fittingCases_2 (by decide) ?_
  refine lv_istore_n (lv' := [(2, .int 0), (1, .int 0), (0, .ref (a 0))]) hx hb dX5_fittingCases_3 rfl hl (by decide) rfl (fun ls hl => ?_)
  exact L_4 _ 0 0 _ (lv_sub hl [2, 1, 0] rfl) h
abbrev rm_S_fittingCase : Room := { frames := 2, cells := 0, slots := 0, locals := 46 }
theorem nv_S_fittingCase : yX5_fittingCase.cls = RX5 ∧ yX5_fittingCase.cls ≠ "java/lang/invoke/MethodHandle" ∧ yX5_fittingCase.cls ≠ "java/lang/invoke/VarHandle" ∧ (parseMethodDescriptor yX5_fittingCase.desc).map (fun d => d.parameters.length) = some 1 := by decide +kernel
set_option maxHeartbeats 4000000 in
set_option maxRecDepth 100000 in
theorem c_S_fittingCase (l : Launch) (D : va_G) (cy : Nat → Nat) (a : Nat → Nat) (p1 : Int32) (v_count : Int32) (v_ones : (Nat → Int32)) (v_others : (Nat → Int32)) (v_heavier : (Nat → Int32)) (u : Int32) (h : f_S_fittingCase p1 v_count v_ones v_others v_heavier = some u) : Met l yX5_fittingCase wsX5_fittingCase rm_S_fittingCase (kk_PR D cy [(a 0, .inr (4, [.ref (a 1), .ref (a 2), .ref (a 3), .int v_count])), (a 1, .inl (cy 0, 8, .inl v_ones)), (a 2, .inl (cy 0, 8, .inl v_others)), (a 3, .inl (cy 0, 8, .inl v_heavier))] [.ref (a 0), .int p1]) (vp_Si (fun r => r = u)) 0 0 (fun _ => False) := by
  refine kk_met (cc := cX5_fittingCase) (maxL := 4) (ret := some .int) (by decide) rfl (Nat.le_of_ble_eq_true rfl) ?_
  intro p e s m below meth c hx hb hr hml hts hown hlocks hB ls hl Q hQ
  obtain ⟨hP, hE⟩ := hB
  have hown : s.vm.findClass RX5 = some m.cls := hown
  have hl : lv_has ls 4 [(0, .ref (a 0)), (1, .int p1)] := hl
  unfold f_S_fittingCase at h
  have L_4 : ∀ (x1 : Int32) (n_4 : Nat) (x2 : Int32) (x3 : Int32) (ls : Array Slot) (hl : lv_has ls 4 [(0, .ref (a 0)), (1, .int x1), (2, .int x2), (3, .int x3)]) (h : it2 (bd_S_fittingCase_4 x1 v_count v_ones v_others v_heavier) n_4 x2 x3 = some u), W p l e rm_S_fittingCase s m [.ref (a 0), .int p1].toArray below meth c s.heap [] 0 0 Q (F0 m 4 ls []) := by
    intro x1 n_4
    induction n_4 with
    | zero => intro x2 x3 ls hl h; exact kk_no h
    | succ n_4 ih_4 =>
      intro x2 x3 ls hl h
      have h : bd_S_fittingCase_4 x1 v_count v_ones v_others v_heavier (it2 (bd_S_fittingCase_4 x1 v_count v_ones v_others v_heavier) n_4) x2 x3 = some u := h
      unfold bd_S_fittingCase_4 at h
      refine lv_iload_n hx hb dX5_fittingCase_4 rfl (lv_at hl 3 rfl) ?_
      refine lv_bipush (v := 24) hx hb dX5_fittingCase_5 (by decide) ?_
      refine lv_icmp_gt (tgt := 34) hx hb dX5_fittingCase_7 (by decide) (fun c_7 => ?_) (fun c_7 => ?_)
      · have h := kk_t c_7 h
        refine lv_bipush (v := (-6)) hx hb dX5_fittingCase_34 (by decide) ?_
        exact kk_ri hx hb hr hlocks hQ h dX5_fittingCase_36
      · have h := kk_f c_7 h
        refine lv_aload_n hx hb dX5_fittingCase_10 rfl (lv_at hl 0 rfl) ?_
        refine lv_iload_n hx hb dX5_fittingCase_11 rfl (lv_at hl 3 rfl) ?_
        obtain ⟨u_12, h_12, h⟩ := kk_b h
        refine kk_si (va_runV (As := [.int x3]) (rest := []) ⟨hx, hb, hml, hown, hts⟩ (c_S_isFitting l D cy a x3 v_count v_ones v_others v_heavier u_12 h_12) (cwV 1 hts gX5_fittingCase_X5_isFitting rfl rfl rfl nv_S_isFitting ⟨Nat.le_of_ble_eq_true rfl, Nat.le_of_ble_eq_true rfl⟩) (kk_preRV hE (hP.sub [0, 1, 2, 3] rfl) (q0 := 0) (ci := 4) rfl rfl) rfl rfl hl.1 rfl (lv_room (Nat.le_of_ble_eq_true rfl)) dX5_fittingCase_12 ⟨Nat.zero_le _, Nat.zero_le _⟩) ?_
        refine lv_if_eq (tgt := 28) hx hb dX5_fittingCase_15 (by decide) (fun c_15 => ?_) (fun c_15 => ?_)
        · have h := kk_t c_15 h
          refine lv_iinc (v := x3 + 1) (lv' := [(3, .int (x3 + 1)), (0, .ref (a 0)), (1, .int x1), (2, .int x2)]) hx hb dX5_fittingCase_28 hl (k := 3) rfl rfl (by decide) rfl (fun ls hl => ?_)
          refine lv_goto (tgt := 4) hx hb dX5_fittingCase_31 (by decide) ?_
          exact ih_4 x2 (x3 + 1) _ (lv_sub hl [1, 2, 3, 0] rfl) h
        · have h := kk_f c_15 h
          refine lv_iload_n hx hb dX5_fittingCase_18 rfl (lv_at hl 2 rfl) ?_
          refine lv_iload_n hx hb dX5_fittingCase_19 rfl (lv_at hl 1 rfl) ?_
          refine lv_icmp_ne (tgt := 25) hx hb dX5_fittingCase_20 (by decide) (fun c_20 => ?_) (fun c_20 => ?_)
          · have h := kk_f c_20 h
            refine lv_iinc (v := x2 + 1) (lv' := [(2, .int (x2 + 1)), (0, .ref (a 0)), (1, .int x1), (3, .int x3)]) hx hb dX5_fittingCase_25 hl (k := 2) rfl rfl (by decide) rfl (fun ls hl => ?_)
            refine lv_iinc (v := x3 + 1) (lv' := [(3, .int (x3 + 1)), (2, .int (x2 + 1)), (0, .ref (a 0)), (1, .int x1)]) hx hb dX5_fittingCase_28 hl (k := 3) rfl rfl (by decide) rfl (fun ls hl => ?_)
            refine lv_goto (tgt := 4) hx hb dX5_fittingCase_31 (by decide) ?_
            exact ih_4 (x2 + 1) (x3 + 1) _ (lv_sub hl [2, 3, 1, 0] rfl) h
          · have h := kk_t c_20 h
            refine lv_iload_n hx hb dX5_fittingCase_23 rfl (lv_at hl 3 rfl) ?_
            exact kk_ri hx hb hr hlocks hQ h dX5_fittingCase_24
  refine lv_iconst (v := 0) hx hb dX5_fittingCase_0 (by decide) ?_
  refine lv_istore_n (lv' := [(2, .int 0), (0, .ref (a 0)), (1, .int p1)]) hx hb dX5_fittingCase_1 rfl hl (by decide) rfl (fun ls hl => ?_)
  refine lv_iconst (v := 0) hx hb dX5_fittingCase_2 (by decide) ?_
  refine lv_istore_n (lv' := [(3, .int 0), (2, .int 0), (0, .ref (a 0)), (1, .int p1)]) hx hb dX5_fittingCase_3 rfl hl (by decide) rfl (fun ls hl => ?_)
  exact L_4 p1 _ 0 0 _ (lv_sub hl [2, 3, 1, 0] rfl) h
abbrev rm_S_copyFrom : Room := { frames := 0, cells := 0, slots := 0, locals := 0 }
theorem nv_S_copyFrom : yX5_copyFrom.cls = RX5 ∧ yX5_copyFrom.cls ≠ "java/lang/invoke/MethodHandle" ∧ yX5_copyFrom.cls ≠ "java/lang/invoke/VarHandle" ∧ (parseMethodDescriptor yX5_copyFrom.desc).map (fun d => d.parameters.length) = some 1 := by decide +kernel
abbrev wo_S_copyFrom (cy : Nat → Nat) (a : Nat → Nat) (b : Nat → Nat) (o_count : Int32) (o_ones : (Nat → Int32)) (o_others : (Nat → Int32)) (o_heavier : (Nat → Int32)) (u : Int32 × (Nat → Int32) × (Nat → Int32) × (Nat → Int32)) : va_W := [(a 0, .inr (4, [.ref (a 1), .ref (a 2), .ref (a 3), .int u.1])), (a 1, .inl (cy 0, 8, .inl u.2.1)), (a 2, .inl (cy 0, 8, .inl u.2.2.1)), (a 3, .inl (cy 0, 8, .inl u.2.2.2)), (b 0, .inr (4, [.ref (b 1), .ref (b 2), .ref (b 3), .int o_count])), (b 1, .inl (cy 0, 8, .inl o_ones)), (b 2, .inl (cy 0, 8, .inl o_others)), (b 3, .inl (cy 0, 8, .inl o_heavier))]
set_option maxHeartbeats 4000000 in
set_option maxRecDepth 100000 in
theorem c_S_copyFrom (l : Launch) (D : va_G) (cy : Nat → Nat) (a b : Nat → Nat) (sz : Nat) (v_count : Int32) (v_ones : (Nat → Int32)) (v_others : (Nat → Int32)) (v_heavier : (Nat → Int32)) (o_count : Int32) (o_ones : (Nat → Int32)) (o_others : (Nat → Int32)) (o_heavier : (Nat → Int32)) (u : Int32 × (Nat → Int32) × (Nat → Int32) × (Nat → Int32)) (h : f_S_copyFrom v_count v_ones v_others v_heavier o_count o_ones o_others o_heavier = some u) : Met l yX5_copyFrom wsX5_copyFrom rm_S_copyFrom (kk_PW D cy [(a 0, .inr (4, [.ref (a 1), .ref (a 2), .ref (a 3), .int v_count])), (a 1, .inl (cy 0, 8, .inl v_ones)), (a 2, .inl (cy 0, 8, .inl v_others)), (a 3, .inl (cy 0, 8, .inl v_heavier)), (b 0, .inr (4, [.ref (b 1), .ref (b 2), .ref (b 3), .int o_count])), (b 1, .inl (cy 0, 8, .inl o_ones)), (b 2, .inl (cy 0, 8, .inl o_others)), (b 3, .inl (cy 0, 8, .inl o_heavier))] sz [.ref (a 0), .ref (b 0)]) (kk_Qv D (wo_S_copyFrom cy a b o_count o_ones o_others o_heavier u) (va_A [(a 0, .inr (4, [.ref (a 1), .ref (a 2), .ref (a 3), .int v_count])), (a 1, .inl (cy 0, 8, .inl v_ones)), (a 2, .inl (cy 0, 8, .inl v_others)), (a 3, .inl (cy 0, 8, .inl v_heavier)), (b 0, .inr (4, [.ref (b 1), .ref (b 2), .ref (b 3), .int o_count])), (b 1, .inl (cy 0, 8, .inl o_ones)), (b 2, .inl (cy 0, 8, .inl o_others)), (b 3, .inl (cy 0, 8, .inl o_heavier))] sz)) 0 0 (va_A [(a 0, .inr (4, [.ref (a 1), .ref (a 2), .ref (a 3), .int v_count])), (a 1, .inl (cy 0, 8, .inl v_ones)), (a 2, .inl (cy 0, 8, .inl v_others)), (a 3, .inl (cy 0, 8, .inl v_heavier)), (b 0, .inr (4, [.ref (b 1), .ref (b 2), .ref (b 3), .int o_count])), (b 1, .inl (cy 0, 8, .inl o_ones)), (b 2, .inl (cy 0, 8, .inl o_others)), (b 3, .inl (cy 0, 8, .inl o_heavier))] sz) := by
  refine kk_met (cc := cX5_copyFrom) (maxL := 3) (ret := none) (by decide) rfl (Nat.le_of_ble_eq_true rfl) ?_
  intro p e s m below meth c hx hb hr hml hts hown hlocks hB ls hl Q hQ
  obtain ⟨hsz, hP, hE, hD0⟩ := hB
  subst hsz
  have hD := hD0.self (sz := s.heap.size)
  generalize hAe : va_A [(a 0, .inr (4, [.ref (a 1), .ref (a 2), .ref (a 3), .int v_count])), (a 1, .inl (cy 0, 8, .inl v_ones)), (a 2, .inl (cy 0, 8, .inl v_others)), (a 3, .inl (cy 0, 8, .inl v_heavier)), (b 0, .inr (4, [.ref (b 1), .ref (b 2), .ref (b 3), .int o_count])), (b 1, .inl (cy 0, 8, .inl o_ones)), (b 2, .inl (cy 0, 8, .inl o_others)), (b 3, .inl (cy 0, 8, .inl o_heavier))] s.heap.size = A at hD hQ
  have hA : ∀ q : Nat, s.heap.size ≤ q → A q := fun q h => by rw [← hAe]; exact Or.inr h
  have hS : va_S A s.heap s.heap [] := va_S.rf
  have hown : s.vm.findClass RX5 = some m.cls := hown
  have hl : lv_has ls 3 [(0, .ref (a 0)), (1, .ref (b 0))] := hl
  unfold f_S_copyFrom at h
  have L_10 : ∀ (v_count : Int32) (n_10 : Nat) (x2 : Int32) (v_ones : (Nat → Int32)) (v_others : (Nat → Int32)) (v_heavier : (Nat → Int32)) (H : Heap) (locs : List Loc) (hP : va_P D vwCl [(a 0, .inr (4, [.ref (a 1), .ref (a 2), .ref (a 3), .int v_count])), (a 1, .inl (cy 0, 8, .inl v_ones)), (a 2, .inl (cy 0, 8, .inl v_others)), (a 3, .inl (cy 0, 8, .inl v_heavier)), (b 0, .inr (4, [.ref (b 1), .ref (b 2), .ref (b 3), .int o_count])), (b 1, .inl (cy 0, 8, .inl o_ones)), (b 2, .inl (cy 0, 8, .inl o_others)), (b 3, .inl (cy 0, 8, .inl o_heavier))] H) (hD : va_D A [(a 0, .inr (4, [.ref (a 1), .ref (a 2), .ref (a 3), .int v_count])), (a 1, .inl (cy 0, 8, .inl v_ones)), (a 2, .inl (cy 0, 8, .inl v_others)), (a 3, .inl (cy 0, 8, .inl v_heavier)), (b 0, .inr (4, [.ref (b 1), .ref (b 2), .ref (b 3), .int o_count])), (b 1, .inl (cy 0, 8, .inl o_ones)), (b 2, .inl (cy 0, 8, .inl o_others)), (b 3, .inl (cy 0, 8, .inl o_heavier))]) (hS : va_S A s.heap H locs) (ls : Array Slot) (hl : lv_has ls 3 [(0, .ref (a 0)), (1, .ref (b 0)), (2, .int x2)]) (h : it4 (bd_S_copyFrom_10 v_count o_count o_ones o_others o_heavier) n_10 x2 v_ones v_others v_heavier = some u), W p l e rm_S_copyFrom s m [.ref (a 0), .ref (b 0)].toArray below meth c H locs 0 0 Q (F0 m 10 ls []) := by
    intro v_count n_10
    induction n_10 with
    | zero => intro x2 v_ones v_others v_heavier H locs hP hD hS ls hl h; exact kk_no h
    | succ n_10 ih_10 =>
      intro x2 v_ones v_others v_heavier H locs hP hD hS ls hl h
      have h : bd_S_copyFrom_10 v_count o_count o_ones o_others o_heavier (it4 (bd_S_copyFrom_10 v_count o_count o_ones o_others o_heavier) n_10) x2 v_ones v_others v_heavier = some u := h
      unfold bd_S_copyFrom_10 at h
      refine lv_iload_n hx hb dX5_copyFrom_10 rfl (lv_at hl 2 rfl) ?_
      refine lv_bipush (v := 8) hx hb dX5_copyFrom_11 (by decide) ?_
      refine lv_icmp_ge (tgt := 58) hx hb dX5_copyFrom_13 (by decide) (fun c_13 => ?_) (fun c_13 => ?_)
      · have h := kk_t c_13 h
        exact kk_rwv (wf := wo_S_copyFrom cy a b o_count o_ones o_others o_heavier) hx hb hr hlocks h hQ hP hD hS dX5_copyFrom_58
      · have h := kk_f c_13 h
        refine lv_aload_n hx hb dX5_copyFrom_16 rfl (lv_at hl 0 rfl) ?_
        refine va_get (D := D) (ci := 4) (v := .ref (a 1)) (C := RX5) (T := TX5) (N := 4) hx hb hts (fun _ h9 => List.mem_cons_of_mem _ (List.mem_append_right _ h9)) hown hE.1 hP 0 rfl rfl 0 (by decide) (hts (.fieldLink RX5 11 "PeaCups$Sights" "ones" "[I") (List.mem_of_getElem? (i := 2) rfl)) (fun _ h9 => h9) rfl dX5_copyFrom_17 ?_
        refine lv_iload_n hx hb dX5_copyFrom_20 rfl (lv_at hl 2 rfl) ?_
        refine lv_aload_n hx hb dX5_copyFrom_21 rfl (lv_at hl 1 rfl) ?_
        refine va_get (D := D) (ci := 4) (v := .ref (b 1)) (C := RX5) (T := TX5) (N := 4) hx hb hts (fun _ h9 => List.mem_cons_of_mem _ (List.mem_append_right _ h9)) hown hE.1 hP 4 rfl rfl 0 (by decide) (hts (.fieldLink RX5 11 "PeaCups$Sights" "ones" "[I") (List.mem_of_getElem? (i := 2) rfl)) (fun _ h9 => h9) rfl dX5_copyFrom_22 ?_
        refine lv_iload_n hx hb dX5_copyFrom_25 rfl (lv_at hl 2 rfl) ?_
        obtain ⟨i_26, h⟩ := kk_x h
        refine va_iald hx hb hE.1 hP 5 0 rfl rfl i_26 dX5_copyFrom_26 ?_
        obtain ⟨i_27, h⟩ := kk_x h
        refine va_iast hx hb hE.1 hP hD hS 1 0 rfl rfl i_27 dX5_copyFrom_27 (fun H locs hP hD hS => ?_)
        have hP : va_P D vwCl [(a 0, .inr (4, [.ref (a 1), .ref (a 2), .ref (a 3), .int v_count])), (a 1, .inl (cy 0, 8, .inl (upd v_ones (x2 : Int32).toNatClampNeg (o_ones (x2 : Int32).toNatClampNeg)))), (a 2, .inl (cy 0, 8, .inl v_others)), (a 3, .inl (cy 0, 8, .inl v_heavier)), (b 0, .inr (4, [.ref (b 1), .ref (b 2), .ref (b 3), .int o_count])), (b 1, .inl (cy 0, 8, .inl o_ones)), (b 2, .inl (cy 0, 8, .inl o_others)), (b 3, .inl (cy 0, 8, .inl o_heavier))] H := hP
        have hD : va_D A [(a 0, .inr (4, [.ref (a 1), .ref (a 2), .ref (a 3), .int v_count])), (a 1, .inl (cy 0, 8, .inl (upd v_ones (x2 : Int32).toNatClampNeg (o_ones (x2 : Int32).toNatClampNeg)))), (a 2, .inl (cy 0, 8, .inl v_others)), (a 3, .inl (cy 0, 8, .inl v_heavier)), (b 0, .inr (4, [.ref (b 1), .ref (b 2), .ref (b 3), .int o_count])), (b 1, .inl (cy 0, 8, .inl o_ones)), (b 2, .inl (cy 0, 8, .inl o_others)), (b 3, .inl (cy 0, 8, .inl o_heavier))] := hD
        refine lv_aload_n hx hb dX5_copyFrom_28 rfl (lv_at hl 0 rfl) ?_
        refine va_get (D := D) (ci := 4) (v := .ref (a 2)) (C := RX5) (T := TX5) (N := 4) hx hb hts (fun _ h9 => List.mem_cons_of_mem _ (List.mem_append_right _ h9)) hown hE.1 hP 0 rfl rfl 1 (by decide) (hts (.fieldLink RX5 15 "PeaCups$Sights" "others" "[I") (List.mem_of_getElem? (i := 3) rfl)) (fun _ h9 => h9) rfl dX5_copyFrom_29 ?_
        refine lv_iload_n hx hb dX5_copyFrom_32 rfl (lv_at hl 2 rfl) ?_
        refine lv_aload_n hx hb dX5_copyFrom_33 rfl (lv_at hl 1 rfl) ?_
        refine va_get (D := D) (ci := 4) (v := .ref (b 2)) (C := RX5) (T := TX5) (N := 4) hx hb hts (fun _ h9 => List.mem_cons_of_mem _ (List.mem_append_right _ h9)) hown hE.1 hP 4 rfl rfl 1 (by decide) (hts (.fieldLink RX5 15 "PeaCups$Sights" "others" "[I") (List.mem_of_getElem? (i := 3) rfl)) (fun _ h9 => h9) rfl dX5_copyFrom_34 ?_
        refine lv_iload_n hx hb dX5_copyFrom_37 rfl (lv_at hl 2 rfl) ?_
        obtain ⟨i_38, h⟩ := kk_x h
        refine va_iald hx hb hE.1 hP 6 0 rfl rfl i_38 dX5_copyFrom_38 ?_
        obtain ⟨i_39, h⟩ := kk_x h
        refine va_iast hx hb hE.1 hP hD hS 2 0 rfl rfl i_39 dX5_copyFrom_39 (fun H locs hP hD hS => ?_)
        have hP : va_P D vwCl [(a 0, .inr (4, [.ref (a 1), .ref (a 2), .ref (a 3), .int v_count])), (a 1, .inl (cy 0, 8, .inl (upd v_ones (x2 : Int32).toNatClampNeg (o_ones (x2 : Int32).toNatClampNeg)))), (a 2, .inl (cy 0, 8, .inl (upd v_others (x2 : Int32).toNatClampNeg (o_others (x2 : Int32).toNatClampNeg)))), (a 3, .inl (cy 0, 8, .inl v_heavier)), (b 0, .inr (4, [.ref (b 1), .ref (b 2), .ref (b 3), .int o_count])), (b 1, .inl (cy 0, 8, .inl o_ones)), (b 2, .inl (cy 0, 8, .inl o_others)), (b 3, .inl (cy 0, 8, .inl o_heavier))] H := hP
        have hD : va_D A [(a 0, .inr (4, [.ref (a 1), .ref (a 2), .ref (a 3), .int v_count])), (a 1, .inl (cy 0, 8, .inl (upd v_ones (x2 : Int32).toNatClampNeg (o_ones (x2 : Int32).toNatClampNeg)))), (a 2, .inl (cy 0, 8, .inl (upd v_others (x2 : Int32).toNatClampNeg (o_others (x2 : Int32).toNatClampNeg)))), (a 3, .inl (cy 0, 8, .inl v_heavier)), (b 0, .inr (4, [.ref (b 1), .ref (b 2), .ref (b 3), .int o_count])), (b 1, .inl (cy 0, 8, .inl o_ones)), (b 2, .inl (cy 0, 8, .inl o_others)), (b 3, .inl (cy 0, 8, .inl o_heavier))] := hD
        refine lv_aload_n hx hb dX5_copyFrom_40 rfl (lv_at hl 0 rfl) ?_
        refine va_get (D := D) (ci := 4) (v := .ref (a 3)) (C := RX5) (T := TX5) (N := 4) hx hb hts (fun _ h9 => List.mem_cons_of_mem _ (List.mem_append_right _ h9)) hown hE.1 hP 0 rfl rfl 2 (by decide) (hts (.fieldLink RX5 18 "PeaCups$Sights" "heavier" "[I") (List.mem_of_getElem? (i := 4) rfl)) (fun _ h9 => h9) rfl dX5_copyFrom_41 ?_
        refine lv_iload_n hx hb dX5_copyFrom_44 rfl (lv_at hl 2 rfl) ?_
        refine lv_aload_n hx hb dX5_copyFrom_45 rfl (lv_at hl 1 rfl) ?_
        refine va_get (D := D) (ci := 4) (v := .ref (b 3)) (C := RX5) (T := TX5) (N := 4) hx hb hts (fun _ h9 => List.mem_cons_of_mem _ (List.mem_append_right _ h9)) hown hE.1 hP 4 rfl rfl 2 (by decide) (hts (.fieldLink RX5 18 "PeaCups$Sights" "heavier" "[I") (List.mem_of_getElem? (i := 4) rfl)) (fun _ h9 => h9) rfl dX5_copyFrom_46 ?_
        refine lv_iload_n hx hb dX5_copyFrom_49 rfl (lv_at hl 2 rfl) ?_
        obtain ⟨i_50, h⟩ := kk_x h
        refine va_iald hx hb hE.1 hP 7 0 rfl rfl i_50 dX5_copyFrom_50 ?_
        obtain ⟨i_51, h⟩ := kk_x h
        refine va_iast hx hb hE.1 hP hD hS 3 0 rfl rfl i_51 dX5_copyFrom_51 (fun H locs hP hD hS => ?_)
        have hP : va_P D vwCl [(a 0, .inr (4, [.ref (a 1), .ref (a 2), .ref (a 3), .int v_count])), (a 1, .inl (cy 0, 8, .inl (upd v_ones (x2 : Int32).toNatClampNeg (o_ones (x2 : Int32).toNatClampNeg)))), (a 2, .inl (cy 0, 8, .inl (upd v_others (x2 : Int32).toNatClampNeg (o_others (x2 : Int32).toNatClampNeg)))), (a 3, .inl (cy 0, 8, .inl (upd v_heavier (x2 : Int32).toNatClampNeg (o_heavier (x2 : Int32).toNatClampNeg)))), (b 0, .inr (4, [.ref (b 1), .ref (b 2), .ref (b 3), .int o_count])), (b 1, .inl (cy 0, 8, .inl o_ones)), (b 2, .inl (cy 0, 8, .inl o_others)), (b 3, .inl (cy 0, 8, .inl o_heavier))] H := hP
        have hD : va_D A [(a 0, .inr (4, [.ref (a 1), .ref (a 2), .ref (a 3), .int v_count])), (a 1, .inl (cy 0, 8, .inl (upd v_ones (x2 : Int32).toNatClampNeg (o_ones (x2 : Int32).toNatClampNeg)))), (a 2, .inl (cy 0, 8, .inl (upd v_others (x2 : Int32).toNatClampNeg (o_others (x2 : Int32).toNatClampNeg)))), (a 3, .inl (cy 0, 8, .inl (upd v_heavier (x2 : Int32).toNatClampNeg (o_heavier (x2 : Int32).toNatClampNeg)))), (b 0, .inr (4, [.ref (b 1), .ref (b 2), .ref (b 3), .int o_count])), (b 1, .inl (cy 0, 8, .inl o_ones)), (b 2, .inl (cy 0, 8, .inl o_others)), (b 3, .inl (cy 0, 8, .inl o_heavier))] := hD
        refine lv_iinc (v := x2 + 1) (lv' := [(2, .int (x2 + 1)), (0, .ref (a 0)), (1, .ref (b 0))]) hx hb dX5_copyFrom_52 hl (k := 2) rfl rfl (by decide) rfl (fun ls hl => ?_)
        refine lv_goto (tgt := 10) hx hb dX5_copyFrom_55 (by decide) ?_
        exact ih_10 (x2 + 1) (upd v_ones (x2 : Int32).toNatClampNeg (o_ones (x2 : Int32).toNatClampNeg)) (upd v_others (x2 : Int32).toNatClampNeg (o_others (x2 : Int32).toNatClampNeg)) (upd v_heavier (x2 : Int32).toNatClampNeg (o_heavier (x2 : Int32).toNatClampNeg)) _ _ hP hD hS _ (lv_sub hl [1, 2, 0] rfl) h
  refine lv_aload_n hx hb dX5_copyFrom_0 rfl (lv_at hl 0 rfl) ?_
  refine lv_aload_n hx hb dX5_copyFrom_1 rfl (lv_at hl 1 rfl) ?_
  refine va_get (D := D) (ci := 4) (v := .int o_count) (C := RX5) (T := TX5) (N := 4) hx hb hts (fun _ h9 => List.mem_cons_of_mem _ (List.mem_append_right _ h9)) hown hE.1 hP 4 rfl rfl 3 (by decide) (hts (.fieldLink RX5 31 "PeaCups$Sights" "count" "I") (List.mem_of_getElem? (i := 1) rfl)) (fun _ h9 => h9) rfl dX5_copyFrom_2 ?_
  refine va_put (D := D) (ci := 4) (v := .int o_count) (ty := .int) (C := RX5) (T := TX5) (N := 4) hx hb hts (fun _ h9 => List.mem_cons_of_mem _ (List.mem_append_right _ h9)) tyX5 tyX5_ok nmX5 hown hE.1 hP hD hS 0 rfl rfl 3 (by decide) (hts (.fieldLink RX5 31 "PeaCups$Sights" "count" "I") (List.mem_of_getElem? (i := 1) rfl)) (fun _ h9 => h9) rfl (by decide +kernel) rfl rfl (Nat.le_of_ble_eq_true rfl) dX5_copyFrom_5 (fun H locs hP hD hS => ?_)
  have hP : va_P D vwCl [(a 0, .inr (4, [.ref (a 1), .ref (a 2), .ref (a 3), .int o_count])), (a 1, .inl (cy 0, 8, .inl v_ones)), (a 2, .inl (cy 0, 8, .inl v_others)), (a 3, .inl (cy 0, 8, .inl v_heavier)), (b 0, .inr (4, [.ref (b 1), .ref (b 2), .ref (b 3), .int o_count])), (b 1, .inl (cy 0, 8, .inl o_ones)), (b 2, .inl (cy 0, 8, .inl o_others)), (b 3, .inl (cy 0, 8, .inl o_heavier))] H := hP
  have hD : va_D A [(a 0, .inr (4, [.ref (a 1), .ref (a 2), .ref (a 3), .int o_count])), (a 1, .inl (cy 0, 8, .inl v_ones)), (a 2, .inl (cy 0, 8, .inl v_others)), (a 3, .inl (cy 0, 8, .inl v_heavier)), (b 0, .inr (4, [.ref (b 1), .ref (b 2), .ref (b 3), .int o_count])), (b 1, .inl (cy 0, 8, .inl o_ones)), (b 2, .inl (cy 0, 8, .inl o_others)), (b 3, .inl (cy 0, 8, .inl o_heavier))] := hD
  refine lv_iconst (v := 0) hx hb dX5_copyFrom_8 (by decide) ?_
  refine lv_istore_n (lv' := [(2, .int 0), (0, .ref (a 0)), (1, .ref (b 0))]) hx hb dX5_copyFrom_9 rfl hl (by decide) rfl (fun ls hl => ?_)
  exact L_10 o_count _ 0 v_ones v_others v_heavier _ _ hP hD hS _ (lv_sub hl [1, 2, 0] rfl) h
abbrev rm_I_keep : Room := { frames := 1, cells := 0, slots := 0, locals := 22 }
theorem nv_I_keep : yX1_keep.cls = RX1 ∧ yX1_keep.cls ≠ "java/lang/invoke/MethodHandle" ∧ yX1_keep.cls ≠ "java/lang/invoke/VarHandle" ∧ (parseMethodDescriptor yX1_keep.desc).map (fun d => d.parameters.length) = some 2 := by decide +kernel
abbrev wo_I_keep (cy : Nat → Nat) (a : Nat → Nat) (b : Nat → Nat) (d : Nat → Nat) (o_order : Int32) (o_peaCup : Int32) (o_round : Int32) (o_eyes : (Nat → Int32)) (o_coins : (Nat → Int32)) (o_thoughts : (Nat → Int32)) (q_count : Int32) (q_ones : (Nat → Int32)) (q_others : (Nat → Int32)) (q_heavier : (Nat → Int32)) (u : Int32 × Int32 × Int32 × Int32 × (Nat → Int32) × (Nat → Int32) × (Nat → Int32) × Int32 × (Nat → Int32) × (Nat → Int32) × (Nat → Int32)) : va_W := [(a 0, .inr (1, [.ref (a 1), .ref (a 5), .int u.1])), (a 1, .inr (6, [.int u.2.1, .int u.2.2.1, .int u.2.2.2.1, .ref (a 2), .ref (a 3), .ref (a 4)])), (a 2, .inl (cy 0, 4, .inl u.2.2.2.2.1)), (a 3, .inl (cy 0, 4, .inl u.2.2.2.2.2.1)), (a 4, .inl (cy 0, 4, .inl u.2.2.2.2.2.2.1)), (a 5, .inr (4, [.ref (a 6), .ref (a 7), .ref (a 8), .int u.2.2.2.2.2.2.2.1])), (a 6, .inl (cy 0, 8, .inl u.2.2.2.2.2.2.2.2.1)), (a 7, .inl (cy 0, 8, .inl u.2.2.2.2.2.2.2.2.2.1)), (a 8, .inl (cy 0, 8, .inl u.2.2.2.2.2.2.2.2.2.2)), (b 0, .inr (6, [.int o_order, .int o_peaCup, .int o_round, .ref (b 1), .ref (b 2), .ref (b 3)])), (b 1, .inl (cy 0, 4, .inl o_eyes)), (b 2, .inl (cy 0, 4, .inl o_coins)), (b 3, .inl (cy 0, 4, .inl o_thoughts)), (d 0, .inr (4, [.ref (d 1), .ref (d 2), .ref (d 3), .int q_count])), (d 1, .inl (cy 0, 8, .inl q_ones)), (d 2, .inl (cy 0, 8, .inl q_others)), (d 3, .inl (cy 0, 8, .inl q_heavier))]
set_option maxHeartbeats 4000000 in
set_option maxRecDepth 100000 in
theorem c_I_keep (l : Launch) (D : va_G) (cy : Nat → Nat) (a b d : Nat → Nat) (sz : Nat) (v_kept : Int32) (v_table_order : Int32) (v_table_peaCup : Int32) (v_table_round : Int32) (v_table_eyes : (Nat → Int32)) (v_table_coins : (Nat → Int32)) (v_table_thoughts : (Nat → Int32)) (v_sights_count : Int32) (v_sights_ones : (Nat → Int32)) (v_sights_others : (Nat → Int32)) (v_sights_heavier : (Nat → Int32)) (o_order : Int32) (o_peaCup : Int32) (o_round : Int32) (o_eyes : (Nat → Int32)) (o_coins : (Nat → Int32)) (o_thoughts : (Nat → Int32)) (q_count : Int32) (q_ones : (Nat → Int32)) (q_others : (Nat → Int32)) (q_heavier : (Nat → Int32)) (u : Int32 × Int32 × Int32 × Int32 × (Nat → Int32) × (Nat → Int32) × (Nat → Int32) × Int32 × (Nat → Int32) × (Nat → Int32) × (Nat → Int32)) (h : f_I_keep v_kept v_table_order v_table_peaCup v_table_round v_table_eyes v_table_coins v_table_thoughts v_sights_count v_sights_ones v_sights_others v_sights_heavier o_order o_peaCup o_round o_eyes o_coins o_thoughts q_count q_ones q_others q_heavier = some u) : Met l yX1_keep wsX1_keep rm_I_keep (kk_PW D cy [(a 0, .inr (1, [.ref (a 1), .ref (a 5), .int v_kept])), (a 1, .inr (6, [.int v_table_order, .int v_table_peaCup, .int v_table_round, .ref (a 2), .ref (a 3), .ref (a 4)])), (a 2, .inl (cy 0, 4, .inl v_table_eyes)), (a 3, .inl (cy 0, 4, .inl v_table_coins)), (a 4, .inl (cy 0, 4, .inl v_table_thoughts)), (a 5, .inr (4, [.ref (a 6), .ref (a 7), .ref (a 8), .int v_sights_count])), (a 6, .inl (cy 0, 8, .inl v_sights_ones)), (a 7, .inl (cy 0, 8, .inl v_sights_others)), (a 8, .inl (cy 0, 8, .inl v_sights_heavier)), (b 0, .inr (6, [.int o_order, .int o_peaCup, .int o_round, .ref (b 1), .ref (b 2), .ref (b 3)])), (b 1, .inl (cy 0, 4, .inl o_eyes)), (b 2, .inl (cy 0, 4, .inl o_coins)), (b 3, .inl (cy 0, 4, .inl o_thoughts)), (d 0, .inr (4, [.ref (d 1), .ref (d 2), .ref (d 3), .int q_count])), (d 1, .inl (cy 0, 8, .inl q_ones)), (d 2, .inl (cy 0, 8, .inl q_others)), (d 3, .inl (cy 0, 8, .inl q_heavier))] sz [.ref (a 0), .ref (b 0), .ref (d 0)]) (kk_Qv D (wo_I_keep cy a b d o_order o_peaCup o_round o_eyes o_coins o_thoughts q_count q_ones q_others q_heavier u) (va_A [(a 0, .inr (1, [.ref (a 1), .ref (a 5), .int v_kept])), (a 1, .inr (6, [.int v_table_order, .int v_table_peaCup, .int v_table_round, .ref (a 2), .ref (a 3), .ref (a 4)])), (a 2, .inl (cy 0, 4, .inl v_table_eyes)), (a 3, .inl (cy 0, 4, .inl v_table_coins)), (a 4, .inl (cy 0, 4, .inl v_table_thoughts)), (a 5, .inr (4, [.ref (a 6), .ref (a 7), .ref (a 8), .int v_sights_count])), (a 6, .inl (cy 0, 8, .inl v_sights_ones)), (a 7, .inl (cy 0, 8, .inl v_sights_others)), (a 8, .inl (cy 0, 8, .inl v_sights_heavier)), (b 0, .inr (6, [.int o_order, .int o_peaCup, .int o_round, .ref (b 1), .ref (b 2), .ref (b 3)])), (b 1, .inl (cy 0, 4, .inl o_eyes)), (b 2, .inl (cy 0, 4, .inl o_coins)), (b 3, .inl (cy 0, 4, .inl o_thoughts)), (d 0, .inr (4, [.ref (d 1), .ref (d 2), .ref (d 3), .int q_count])), (d 1, .inl (cy 0, 8, .inl q_ones)), (d 2, .inl (cy 0, 8, .inl q_others)), (d 3, .inl (cy 0, 8, .inl q_heavier))] sz)) 0 0 (va_A [(a 0, .inr (1, [.ref (a 1), .ref (a 5), .int v_kept])), (a 1, .inr (6, [.int v_table_order, .int v_table_peaCup, .int v_table_round, .ref (a 2), .ref (a 3), .ref (a 4)])), (a 2, .inl (cy 0, 4, .inl v_table_eyes)), (a 3, .inl (cy 0, 4, .inl v_table_coins)), (a 4, .inl (cy 0, 4, .inl v_table_thoughts)), (a 5, .inr (4, [.ref (a 6), .ref (a 7), .ref (a 8), .int v_sights_count])), (a 6, .inl (cy 0, 8, .inl v_sights_ones)), (a 7, .inl (cy 0, 8, .inl v_sights_others)), (a 8, .inl (cy 0, 8, .inl v_sights_heavier)), (b 0, .inr (6, [.int o_order, .int o_peaCup, .int o_round, .ref (b 1), .ref (b 2), .ref (b 3)])), (b 1, .inl (cy 0, 4, .inl o_eyes)), (b 2, .inl (cy 0, 4, .inl o_coins)), (b 3, .inl (cy 0, 4, .inl o_thoughts)), (d 0, .inr (4, [.ref (d 1), .ref (d 2), .ref (d 3), .int q_count])), (d 1, .inl (cy 0, 8, .inl q_ones)), (d 2, .inl (cy 0, 8, .inl q_others)), (d 3, .inl (cy 0, 8, .inl q_heavier))] sz) := by
  refine kk_met (cc := cX1_keep) (maxL := 3) (ret := none) (by decide) rfl (Nat.le_of_ble_eq_true rfl) ?_
  intro p e s m below meth c hx hb hr hml hts hown hlocks hB ls hl Q hQ
  obtain ⟨hsz, hP, hE, hD0⟩ := hB
  subst hsz
  have hD := hD0.self (sz := s.heap.size)
  generalize hAe : va_A [(a 0, .inr (1, [.ref (a 1), .ref (a 5), .int v_kept])), (a 1, .inr (6, [.int v_table_order, .int v_table_peaCup, .int v_table_round, .ref (a 2), .ref (a 3), .ref (a 4)])), (a 2, .inl (cy 0, 4, .inl v_table_eyes)), (a 3, .inl (cy 0, 4, .inl v_table_coins)), (a 4, .inl (cy 0, 4, .inl v_table_thoughts)), (a 5, .inr (4, [.ref (a 6), .ref (a 7), .ref (a 8), .int v_sights_count])), (a 6, .inl (cy 0, 8, .inl v_sights_ones)), (a 7, .inl (cy 0, 8, .inl v_sights_others)), (a 8, .inl (cy 0, 8, .inl v_sights_heavier)), (b 0, .inr (6, [.int o_order, .int o_peaCup, .int o_round, .ref (b 1), .ref (b 2), .ref (b 3)])), (b 1, .inl (cy 0, 4, .inl o_eyes)), (b 2, .inl (cy 0, 4, .inl o_coins)), (b 3, .inl (cy 0, 4, .inl o_thoughts)), (d 0, .inr (4, [.ref (d 1), .ref (d 2), .ref (d 3), .int q_count])), (d 1, .inl (cy 0, 8, .inl q_ones)), (d 2, .inl (cy 0, 8, .inl q_others)), (d 3, .inl (cy 0, 8, .inl q_heavier))] s.heap.size = A at hD hQ
  have hA : ∀ q : Nat, s.heap.size ≤ q → A q := fun q h => by rw [← hAe]; exact Or.inr h
  have hS : va_S A s.heap s.heap [] := va_S.rf
  have hown : s.vm.findClass RX1 = some m.cls := hown
  have hl : lv_has ls 3 [(0, .ref (a 0)), (1, .ref (b 0)), (2, .ref (d 0))] := hl
  unfold f_I_keep at h
  refine lv_aload_n hx hb dX1_keep_0 rfl (lv_at hl 0 rfl) ?_
  refine va_get (D := D) (ci := 1) (v := .ref (a 1)) (C := RX1) (T := TX1) (N := 3) hx hb hts (fun _ h9 => List.mem_cons_of_mem _ (List.mem_append_left _ (List.mem_append_left _ (List.mem_append_right _ h9)))) hown hE.1 hP 0 rfl rfl 0 (by decide) (hts (.fieldLink RX1 10 "PeaCups$Image" "table" "LPeaCups$Table;") (List.mem_of_getElem? (i := 1) rfl)) (fun _ h9 => h9) rfl dX1_keep_1 ?_
  refine lv_aload_n hx hb dX1_keep_4 rfl (lv_at hl 1 rfl) ?_
  obtain ⟨u_5, h_5, h⟩ := kk_b h
  refine kk_wv (wn := [(a 0, .inr (1, [.ref (a 1), .ref (a 5), .int v_kept])), (a 1, .inr (6, [.int u_5.1, .int u_5.2.1, .int u_5.2.2.1, .ref (a 2), .ref (a 3), .ref (a 4)])), (a 2, .inl (cy 0, 4, .inl u_5.2.2.2.1)), (a 3, .inl (cy 0, 4, .inl u_5.2.2.2.2.1)), (a 4, .inl (cy 0, 4, .inl u_5.2.2.2.2.2)), (a 5, .inr (4, [.ref (a 6), .ref (a 7), .ref (a 8), .int v_sights_count])), (a 6, .inl (cy 0, 8, .inl v_sights_ones)), (a 7, .inl (cy 0, 8, .inl v_sights_others)), (a 8, .inl (cy 0, 8, .inl v_sights_heavier)), (b 0, .inr (6, [.int o_order, .int o_peaCup, .int o_round, .ref (b 1), .ref (b 2), .ref (b 3)])), (b 1, .inl (cy 0, 4, .inl o_eyes)), (b 2, .inl (cy 0, 4, .inl o_coins)), (b 3, .inl (cy 0, 4, .inl o_thoughts)), (d 0, .inr (4, [.ref (d 1), .ref (d 2), .ref (d 3), .int q_count])), (d 1, .inl (cy 0, 8, .inl q_ones)), (d 2, .inl (cy 0, 8, .inl q_others)), (d 3, .inl (cy 0, 8, .inl q_heavier))]) (va_runV (As := [.ref (b 0)]) (rest := []) ⟨hx, hb, hml, hown, hts⟩ (c_T_copyFrom l D cy (fun k => a (k + 1)) b _ v_table_order v_table_peaCup v_table_round v_table_eyes v_table_coins v_table_thoughts o_order o_peaCup o_round o_eyes o_coins o_thoughts u_5 h_5) (cwV 1 hts gX1_keep_X7_copyFrom rfl rfl rfl nv_T_copyFrom ⟨Nat.le_of_ble_eq_true rfl, Nat.le_of_ble_eq_true rfl⟩) (kk_preWV hE (hP.sub [1, 2, 3, 4, 9, 10, 11, 12] rfl) (hD.sub [1, 2, 3, 4, 9, 10, 11, 12] (by decide) rfl) (q0 := 0) (ci := 6) rfl rfl) rfl rfl hl.1 rfl (lv_room (Nat.le_of_ble_eq_true rfl)) dX1_keep_5 ⟨Nat.zero_le _, Nat.zero_le _⟩) hP hD hS hA [1, 2, 3, 4, 9, 10, 11, 12] [0, 5, 6, 7, 8, 13, 14, 15, 16] [0, 9, 10, 11, 12, 1, 2, 3, 4, 13, 14, 15, 16, 5, 6, 7, 8] rfl rfl (by decide) (by decide) (by decide) rfl (fun H locs hP hD hS => ?_)
  refine lv_aload_n hx hb dX1_keep_8 rfl (lv_at hl 0 rfl) ?_
  refine va_get (D := D) (ci := 1) (v := .ref (a 5)) (C := RX1) (T := TX1) (N := 3) hx hb hts (fun _ h9 => List.mem_cons_of_mem _ (List.mem_append_left _ (List.mem_append_left _ (List.mem_append_right _ h9)))) hown hE.1 hP 0 rfl rfl 1 (by decide) (hts (.fieldLink RX1 19 "PeaCups$Image" "sights" "LPeaCups$Sights;") (List.mem_of_getElem? (i := 2) rfl)) (fun _ h9 => h9) rfl dX1_keep_9 ?_
  refine lv_aload_n hx hb dX1_keep_12 rfl (lv_at hl 2 rfl) ?_
  obtain ⟨u_13, h_13, h⟩ := kk_b h
  refine kk_wv (wn := [(a 0, .inr (1, [.ref (a 1), .ref (a 5), .int v_kept])), (a 1, .inr (6, [.int u_5.1, .int u_5.2.1, .int u_5.2.2.1, .ref (a 2), .ref (a 3), .ref (a 4)])), (a 2, .inl (cy 0, 4, .inl u_5.2.2.2.1)), (a 3, .inl (cy 0, 4, .inl u_5.2.2.2.2.1)), (a 4, .inl (cy 0, 4, .inl u_5.2.2.2.2.2)), (a 5, .inr (4, [.ref (a 6), .ref (a 7), .ref (a 8), .int u_13.1])), (a 6, .inl (cy 0, 8, .inl u_13.2.1)), (a 7, .inl (cy 0, 8, .inl u_13.2.2.1)), (a 8, .inl (cy 0, 8, .inl u_13.2.2.2)), (b 0, .inr (6, [.int o_order, .int o_peaCup, .int o_round, .ref (b 1), .ref (b 2), .ref (b 3)])), (b 1, .inl (cy 0, 4, .inl o_eyes)), (b 2, .inl (cy 0, 4, .inl o_coins)), (b 3, .inl (cy 0, 4, .inl o_thoughts)), (d 0, .inr (4, [.ref (d 1), .ref (d 2), .ref (d 3), .int q_count])), (d 1, .inl (cy 0, 8, .inl q_ones)), (d 2, .inl (cy 0, 8, .inl q_others)), (d 3, .inl (cy 0, 8, .inl q_heavier))]) (va_runV (As := [.ref (d 0)]) (rest := []) ⟨hx, hb, hml, hown, hts⟩ (c_S_copyFrom l D cy (fun k => a (k + 5)) d _ v_sights_count v_sights_ones v_sights_others v_sights_heavier q_count q_ones q_others q_heavier u_13 h_13) (cwV 1 hts gX1_keep_X5_copyFrom rfl rfl rfl nv_S_copyFrom ⟨Nat.le_of_ble_eq_true rfl, Nat.le_of_ble_eq_true rfl⟩) (kk_preWV hE (hP.sub [5, 6, 7, 8, 13, 14, 15, 16] rfl) (hD.sub [5, 6, 7, 8, 13, 14, 15, 16] (by decide) rfl) (q0 := 0) (ci := 4) rfl rfl) rfl rfl hl.1 rfl (lv_room (Nat.le_of_ble_eq_true rfl)) dX1_keep_13 ⟨Nat.zero_le _, Nat.zero_le _⟩) hP hD hS hA [5, 6, 7, 8, 13, 14, 15, 16] [0, 1, 2, 3, 4, 9, 10, 11, 12] [0, 1, 2, 3, 4, 9, 10, 11, 12, 5, 6, 7, 8, 13, 14, 15, 16] rfl rfl (by decide) (by decide) (by decide) rfl (fun H locs hP hD hS => ?_)
  refine lv_aload_n hx hb dX1_keep_16 rfl (lv_at hl 0 rfl) ?_
  refine lv_iconst (v := 1) hx hb dX1_keep_17 (by decide) ?_
  refine va_put (D := D) (ci := 1) (v := .int 1) (ty := .boolean) (C := RX1) (T := TX1) (N := 3) hx hb hts (fun _ h9 => List.mem_cons_of_mem _ (List.mem_append_left _ (List.mem_append_left _ (List.mem_append_right _ h9)))) tyX1 tyX1_ok nmX1 hown hE.1 hP hD hS 0 rfl rfl 2 (by decide) (hts (.fieldLink RX1 30 "PeaCups$Image" "kept" "Z") (List.mem_of_getElem? (i := 3) rfl)) (fun _ h9 => h9) rfl (by decide +kernel) rfl rfl (Nat.le_of_ble_eq_true rfl) dX1_keep_18 (fun H locs hP hD hS => ?_)
  have hP : va_P D vwCl [(a 0, .inr (1, [.ref (a 1), .ref (a 5), .int 1])), (a 1, .inr (6, [.int u_5.1, .int u_5.2.1, .int u_5.2.2.1, .ref (a 2), .ref (a 3), .ref (a 4)])), (a 2, .inl (cy 0, 4, .inl u_5.2.2.2.1)), (a 3, .inl (cy 0, 4, .inl u_5.2.2.2.2.1)), (a 4, .inl (cy 0, 4, .inl u_5.2.2.2.2.2)), (a 5, .inr (4, [.ref (a 6), .ref (a 7), .ref (a 8), .int u_13.1])), (a 6, .inl (cy 0, 8, .inl u_13.2.1)), (a 7, .inl (cy 0, 8, .inl u_13.2.2.1)), (a 8, .inl (cy 0, 8, .inl u_13.2.2.2)), (b 0, .inr (6, [.int o_order, .int o_peaCup, .int o_round, .ref (b 1), .ref (b 2), .ref (b 3)])), (b 1, .inl (cy 0, 4, .inl o_eyes)), (b 2, .inl (cy 0, 4, .inl o_coins)), (b 3, .inl (cy 0, 4, .inl o_thoughts)), (d 0, .inr (4, [.ref (d 1), .ref (d 2), .ref (d 3), .int q_count])), (d 1, .inl (cy 0, 8, .inl q_ones)), (d 2, .inl (cy 0, 8, .inl q_others)), (d 3, .inl (cy 0, 8, .inl q_heavier))] H := hP
  have hD : va_D A [(a 0, .inr (1, [.ref (a 1), .ref (a 5), .int 1])), (a 1, .inr (6, [.int u_5.1, .int u_5.2.1, .int u_5.2.2.1, .ref (a 2), .ref (a 3), .ref (a 4)])), (a 2, .inl (cy 0, 4, .inl u_5.2.2.2.1)), (a 3, .inl (cy 0, 4, .inl u_5.2.2.2.2.1)), (a 4, .inl (cy 0, 4, .inl u_5.2.2.2.2.2)), (a 5, .inr (4, [.ref (a 6), .ref (a 7), .ref (a 8), .int u_13.1])), (a 6, .inl (cy 0, 8, .inl u_13.2.1)), (a 7, .inl (cy 0, 8, .inl u_13.2.2.1)), (a 8, .inl (cy 0, 8, .inl u_13.2.2.2)), (b 0, .inr (6, [.int o_order, .int o_peaCup, .int o_round, .ref (b 1), .ref (b 2), .ref (b 3)])), (b 1, .inl (cy 0, 4, .inl o_eyes)), (b 2, .inl (cy 0, 4, .inl o_coins)), (b 3, .inl (cy 0, 4, .inl o_thoughts)), (d 0, .inr (4, [.ref (d 1), .ref (d 2), .ref (d 3), .int q_count])), (d 1, .inl (cy 0, 8, .inl q_ones)), (d 2, .inl (cy 0, 8, .inl q_others)), (d 3, .inl (cy 0, 8, .inl q_heavier))] := hD
  exact kk_rwv (wf := wo_I_keep cy a b d o_order o_peaCup o_round o_eyes o_coins o_thoughts q_count q_ones q_others q_heavier) hx hb hr hlocks h hQ hP hD hS dX1_keep_21
abbrev rm_S_isWeighing : Room := { frames := 1, cells := 0, slots := 0, locals := 22 }
theorem nd_S_isWeighing : yX5_isWeighing.cls ≠ "java/lang/invoke/MethodHandle" ∧ yX5_isWeighing.cls ≠ "java/lang/invoke/VarHandle" ∧ (parseMethodDescriptor yX5_isWeighing.desc).map (fun d => d.parameters.length) = some 2 := by decide +kernel
set_option maxHeartbeats 4000000 in
set_option maxRecDepth 100000 in
theorem c_S_isWeighing (l : Launch) (p0 : Int32) (p1 : Int32) (u : Int32) (h : f_S_isWeighing p0 p1 = some u) : Met l yX5_isWeighing wsX5_isWeighing rm_S_isWeighing (kk_PS [.int p0, .int p1]) (vp_Si (fun r => r = u)) 0 0 (fun _ => False) := by
  refine kk_met (cc := cX5_isWeighing) (maxL := 2) (ret := some .boolean) (by decide) rfl (Nat.le_of_ble_eq_true rfl) ?_
  intro p e s m below meth c hx hb hr hml hts hown hlocks hB ls hl Q hQ
  have hN := hB
  have hown : s.vm.findClass RX5 = some m.cls := hown
  have hl : lv_has ls 2 [(0, .int p0), (1, .int p1)] := hl
  unfold f_S_isWeighing at h
  refine lv_iload_n hx hb dX5_isWeighing_0 rfl (lv_at hl 0 rfl) ?_
  refine lv_iconst (v := 1) hx hb dX5_isWeighing_1 (by decide) ?_
  refine lv_sipush (v := 4095) hx hb dX5_isWeighing_2 (by decide) ?_
  obtain ⟨u_5, h_5, h⟩ := kk_b h
  refine kk_si (va_runSN (As := [.int p0, .int 1, .int 4095]) (rest := []) ⟨hx, hb, hml, hown, hts⟩ (c_C_isWithin l p0 1 4095 u_5 h_5) ⟨va_cnB 3 hts ggX5_isWeighing_X9_isWithin rfl rfl rfl (hN _ (List.mem_of_getElem? (i := 15) rfl)) (hts (.initialized RX9) (List.mem_of_getElem? (i := 2) rfl)) nd_C_isWithin ⟨Nat.le_of_ble_eq_true rfl, Nat.le_of_ble_eq_true rfl⟩, (hts (.static yX9_isWithin) (List.mem_of_getElem? (i := 1) rfl)), trivial⟩ (kk_preS hN) rfl rfl hl.1 rfl (lv_room (Nat.le_of_ble_eq_true rfl)) dX5_isWeighing_5 ⟨Nat.zero_le _, Nat.zero_le _⟩) ?_
  refine lv_if_eq (tgt := 43) hx hb dX5_isWeighing_8 (by decide) (fun c_8 => ?_) (fun c_8 => ?_)
  · have h := kk_t c_8 h
    refine lv_iconst (v := 0) hx hb dX5_isWeighing_43 (by decide) ?_
    exact kk_rz hx hb hr hlocks hQ rfl h dX5_isWeighing_44
  · have h := kk_f c_8 h
    refine lv_iload_n hx hb dX5_isWeighing_11 rfl (lv_at hl 1 rfl) ?_
    refine lv_iconst (v := 1) hx hb dX5_isWeighing_12 (by decide) ?_
    refine lv_sipush (v := 4095) hx hb dX5_isWeighing_13 (by decide) ?_
    obtain ⟨u_16, h_16, h⟩ := kk_b h
    refine kk_si (va_runSN (As := [.int p1, .int 1, .int 4095]) (rest := []) ⟨hx, hb, hml, hown, hts⟩ (c_C_isWithin l p1 1 4095 u_16 h_16) ⟨va_cnB 3 hts ggX5_isWeighing_X9_isWithin rfl rfl rfl (hN _ (List.mem_of_getElem? (i := 15) rfl)) (hts (.initialized RX9) (List.mem_of_getElem? (i := 2) rfl)) nd_C_isWithin ⟨Nat.le_of_ble_eq_true rfl, Nat.le_of_ble_eq_true rfl⟩, (hts (.static yX9_isWithin) (List.mem_of_getElem? (i := 1) rfl)), trivial⟩ (kk_preS hN) rfl rfl hl.1 rfl (lv_room (Nat.le_of_ble_eq_true rfl)) dX5_isWeighing_16 ⟨Nat.zero_le _, Nat.zero_le _⟩) ?_
    refine lv_if_eq (tgt := 43) hx hb dX5_isWeighing_19 (by decide) (fun c_19 => ?_) (fun c_19 => ?_)
    · have h := kk_t c_19 h
      refine lv_iconst (v := 0) hx hb dX5_isWeighing_43 (by decide) ?_
      exact kk_rz hx hb hr hlocks hQ rfl h dX5_isWeighing_44
    · have h := kk_f c_19 h
      refine lv_iload_n hx hb dX5_isWeighing_22 rfl (lv_at hl 0 rfl) ?_
      refine lv_iload_n hx hb dX5_isWeighing_23 rfl (lv_at hl 1 rfl) ?_
      refine lv_iand hx hb dX5_isWeighing_24 ?_
      refine lv_if_ne (tgt := 43) hx hb dX5_isWeighing_25 (by decide) (fun c_25 => ?_) (fun c_25 => ?_)
      · have h := kk_f c_25 h
        refine lv_iconst (v := 0) hx hb dX5_isWeighing_43 (by decide) ?_
        exact kk_rz hx hb hr hlocks hQ rfl h dX5_isWeighing_44
      · have h := kk_t c_25 h
        refine lv_iload_n hx hb dX5_isWeighing_28 rfl (lv_at hl 0 rfl) ?_
        obtain ⟨u_29, h_29, h⟩ := kk_b h
        refine kk_si (va_runS (As := [.int p0]) (rest := []) ⟨hx, hb, hml, hown, hts⟩ (c_J_bitCount l p0 u_29 h_29) (va_cwS 1 hts gX5_isWeighing_J6_bitCount_0f7a4 rfl rfl rfl nd_J_bitCount ⟨Nat.le_of_ble_eq_true rfl, Nat.le_of_ble_eq_true rfl⟩) (kk_preS hN) rfl rfl hl.1 rfl (lv_room (Nat.le_of_ble_eq_true rfl)) dX5_isWeighing_29 ⟨Nat.zero_le _, Nat.zero_le _⟩) ?_
        refine lv_iload_n hx hb dX5_isWeighing_32 rfl (lv_at hl 1 rfl) ?_
        obtain ⟨u_33, h_33, h⟩ := kk_b h
        refine kk_si (va_runS (As := [.int p1]) (rest := [.int u_29]) ⟨hx, hb, hml, hown, hts⟩ (c_J_bitCount l p1 u_33 h_33) (va_cwS 1 hts gX5_isWeighing_J6_bitCount_0f7a4 rfl rfl rfl nd_J_bitCount ⟨Nat.le_of_ble_eq_true rfl, Nat.le_of_ble_eq_true rfl⟩) (kk_preS hN) rfl rfl hl.1 rfl (lv_room (Nat.le_of_ble_eq_true rfl)) dX5_isWeighing_33 ⟨Nat.zero_le _, Nat.zero_le _⟩) ?_
        refine lv_icmp_ne (tgt := 43) hx hb dX5_isWeighing_36 (by decide) (fun c_36 => ?_) (fun c_36 => ?_)
        · have h := kk_f c_36 h
          refine lv_iconst (v := 0) hx hb dX5_isWeighing_43 (by decide) ?_
          exact kk_rz hx hb hr hlocks hQ rfl h dX5_isWeighing_44
        · have h := kk_t c_36 h
          refine lv_iconst (v := 1) hx hb dX5_isWeighing_39 (by decide) ?_
          refine lv_goto (tgt := 44) hx hb dX5_isWeighing_40 (by decide) ?_
          exact kk_rz hx hb hr hlocks hQ rfl h dX5_isWeighing_44
abbrev rm_S_mostLeft : Room := { frames := 2, cells := 0, slots := 0, locals := 46 }
theorem nv_S_mostLeft : yX5_mostLeft.cls = RX5 ∧ yX5_mostLeft.cls ≠ "java/lang/invoke/MethodHandle" ∧ yX5_mostLeft.cls ≠ "java/lang/invoke/VarHandle" ∧ (parseMethodDescriptor yX5_mostLeft.desc).map (fun d => d.parameters.length) = some 2 := by decide +kernel
set_option maxHeartbeats 4000000 in
set_option maxRecDepth 100000 in
theorem c_S_mostLeft (l : Launch) (D : va_G) (cy : Nat → Nat) (a : Nat → Nat) (p1 : Int32) (p2 : Int32) (v_count : Int32) (v_ones : (Nat → Int32)) (v_others : (Nat → Int32)) (v_heavier : (Nat → Int32)) (u : Int32) (h : f_S_mostLeft p1 p2 v_count v_ones v_others v_heavier = some u) : Met l yX5_mostLeft wsX5_mostLeft rm_S_mostLeft (kk_PR D cy [(a 0, .inr (4, [.ref (a 1), .ref (a 2), .ref (a 3), .int v_count])), (a 1, .inl (cy 0, 8, .inl v_ones)), (a 2, .inl (cy 0, 8, .inl v_others)), (a 3, .inl (cy 0, 8, .inl v_heavier))] [.ref (a 0), .int p1, .int p2]) (vp_Si (fun r => r = u)) 0 0 (fun _ => False) := by
  refine kk_met (cc := cX5_mostLeft) (maxL := 8) (ret := some .int) (by decide) rfl (Nat.le_of_ble_eq_true rfl) ?_
  intro p e s m below meth c hx hb hr hml hts hown hlocks hB ls hl Q hQ
  obtain ⟨hP, hE⟩ := hB
  have hown : s.vm.findClass RX5 = some m.cls := hown
  have hl : lv_has ls 8 [(0, .ref (a 0)), (1, .int p1), (2, .int p2)] := hl
  unfold f_S_mostLeft at h
  have L_11 : ∀ (x1 : Int32) (x2 : Int32) (n_11 : Nat) (x3 : Int32) (x4 : Int32) (x5 : Int32) (x6 : Int32) (ls : Array Slot) (hl : lv_has ls 8 [(0, .ref (a 0)), (1, .int x1), (2, .int x2), (3, .int x3), (4, .int x4), (5, .int x5), (6, .int x6)]) (h : it4 (bd_S_mostLeft_11 x1 x2 v_count v_ones v_others v_heavier) n_11 x3 x4 x5 x6 = some u), W p l e rm_S_mostLeft s m [.ref (a 0), .int p1, .int p2].toArray below meth c s.heap [] 0 0 Q (F0 m 11 ls []) := by
    intro x1 x2 n_11
    induction n_11 with
    | zero => intro x3 x4 x5 x6 ls hl h; exact kk_no h
    | succ n_11 ih_11 =>
      have J_62 : ∀ (x3 : Int32) (x5 : Int32) (x6 : Int32) (x7 : Int32) (y0 : Int32) (y1 : Int32) (ls : Array Slot) (hl : lv_has ls 8 [(0, .ref (a 0)), (1, .int x1), (2, .int x2), (3, .int x3), (5, .int x5), (6, .int x6), (7, .int x7)]) (h : jn_S_mostLeft_62 (it4 (bd_S_mostLeft_11 x1 x2 v_count v_ones v_others v_heavier) n_11) x1 x2 x3 x5 x6 x7 y0 y1 v_count v_ones v_others v_heavier = some u), W p l e rm_S_mostLeft s m [.ref (a 0), .int p1, .int p2].toArray below meth c s.heap [] 0 0 Q (F0 m 62 ls [.int y1, .int y0]) := by
        intro x3 x5 x6 x7 y0 y1 ls hl h
        unfold jn_S_mostLeft_62 at h
        refine lv_iadd hx hb dX5_mostLeft_62 ?_
        refine lv_istore (lv' := [(4, .int (y0 + y1)), (0, .ref (a 0)), (1, .int x1), (2, .int x2), (3, .int x3), (5, .int x5), (6, .int x6), (7, .int x7)]) hx hb dX5_mostLeft_63 hl (by decide) rfl (fun ls hl => ?_)
        refine lv_iload hx hb dX5_mostLeft_65 (lv_at hl 5 rfl) ?_
        refine lv_iload hx hb dX5_mostLeft_67 (lv_at hl 7 rfl) ?_
        refine lv_iconst (v := 2) hx hb dX5_mostLeft_69 (by decide) ?_
        refine lv_icmp_ne (tgt := 77) hx hb dX5_mostLeft_70 (by decide) (fun c_70 => ?_) (fun c_70 => ?_)
        · have h := kk_f c_70 h
          refine lv_iconst (v := 0) hx hb dX5_mostLeft_77 (by decide) ?_
          refine lv_iadd hx hb dX5_mostLeft_78 ?_
          refine lv_istore (lv' := [(5, .int (x5 + 0)), (4, .int (y0 + y1)), (0, .ref (a 0)), (1, .int x1), (2, .int x2), (3, .int x3), (6, .int x6), (7, .int x7)]) hx hb dX5_mostLeft_79 hl (by decide) rfl (fun ls hl => ?_)
          refine lv_iinc (v := x6 + 1) (lv' := [(6, .int (x6 + 1)), (5, .int (x5 + 0)), (4, .int (y0 + y1)), (0, .ref (a 0)), (1, .int x1), (2, .int x2), (3, .int x3), (7, .int x7)]) hx hb dX5_mostLeft_81 hl (k := 6) rfl rfl (by decide) rfl (fun ls hl => ?_)
          refine lv_goto (tgt := 11) hx hb dX5_mostLeft_84 (by decide) ?_
          exact ih_11 x3 (y0 + y1) (x5 + 0) (x6 + 1) _ (lv_sub hl [3, 4, 5, 6, 2, 1, 0] rfl) h
        · have h := kk_t c_70 h
          refine lv_iconst (v := 1) hx hb dX5_mostLeft_73 (by decide) ?_
          refine lv_goto (tgt := 78) hx hb dX5_mostLeft_74 (by decide) ?_
          refine lv_iadd hx hb dX5_mostLeft_78 ?_
          refine lv_istore (lv' := [(5, .int (x5 + 1)), (4, .int (y0 + y1)), (0, .ref (a 0)), (1, .int x1), (2, .int x2), (3, .int x3), (6, .int x6), (7, .int x7)]) hx hb dX5_mostLeft_79 hl (by decide) rfl (fun ls hl => ?_)
          refine lv_iinc (v := x6 + 1) (lv' := [(6, .int (x6 + 1)), (5, .int (x5 + 1)), (4, .int (y0 + y1)), (0, .ref (a 0)), (1, .int x1), (2, .int x2), (3, .int x3), (7, .int x7)]) hx hb dX5_mostLeft_81 hl (k := 6) rfl rfl (by decide) rfl (fun ls hl => ?_)
          refine lv_goto (tgt := 11) hx hb dX5_mostLeft_84 (by decide) ?_
          exact ih_11 x3 (y0 + y1) (x5 + 1) (x6 + 1) _ (lv_sub hl [3, 4, 5, 6, 2, 1, 0] rfl) h
      have J_47 : ∀ (x4 : Int32) (x5 : Int32) (x6 : Int32) (x7 : Int32) (y0 : Int32) (y1 : Int32) (ls : Array Slot) (hl : lv_has ls 8 [(0, .ref (a 0)), (1, .int x1), (2, .int x2), (4, .int x4), (5, .int x5), (6, .int x6), (7, .int x7)]) (h : jn_S_mostLeft_47 (it4 (bd_S_mostLeft_11 x1 x2 v_count v_ones v_others v_heavier) n_11) x1 x2 x4 x5 x6 x7 y0 y1 v_count v_ones v_others v_heavier = some u), W p l e rm_S_mostLeft s m [.ref (a 0), .int p1, .int p2].toArray below meth c s.heap [] 0 0 Q (F0 m 47 ls [.int y1, .int y0]) := by
        intro x4 x5 x6 x7 y0 y1 ls hl h
        unfold jn_S_mostLeft_47 at h
        refine lv_iadd hx hb dX5_mostLeft_47 ?_
        refine lv_istore_n (lv' := [(3, .int (y0 + y1)), (0, .ref (a 0)), (1, .int x1), (2, .int x2), (4, .int x4), (5, .int x5), (6, .int x6), (7, .int x7)]) hx hb dX5_mostLeft_48 rfl hl (by decide) rfl (fun ls hl => ?_)
        refine lv_iload hx hb dX5_mostLeft_49 (lv_at hl 4 rfl) ?_
        refine lv_iload hx hb dX5_mostLeft_51 (lv_at hl 7 rfl) ?_
        refine lv_iconst (v := 1) hx hb dX5_mostLeft_53 (by decide) ?_
        refine lv_icmp_ne (tgt := 61) hx hb dX5_mostLeft_54 (by decide) (fun c_54 => ?_) (fun c_54 => ?_)
        · have h := kk_f c_54 h
          refine lv_iconst (v := 0) hx hb dX5_mostLeft_61 (by decide) ?_
          exact J_62 (y0 + y1) x5 x6 x7 x4 0 _ (lv_sub hl [1, 2, 3, 0, 5, 6, 7] rfl) h
        · have h := kk_t c_54 h
          refine lv_iconst (v := 1) hx hb dX5_mostLeft_57 (by decide) ?_
          refine lv_goto (tgt := 62) hx hb dX5_mostLeft_58 (by decide) ?_
          exact J_62 (y0 + y1) x5 x6 x7 x4 1 _ (lv_sub hl [1, 2, 3, 0, 5, 6, 7] rfl) h
      intro x3 x4 x5 x6 ls hl h
      have h : bd_S_mostLeft_11 x1 x2 v_count v_ones v_others v_heavier (it4 (bd_S_mostLeft_11 x1 x2 v_count v_ones v_others v_heavier) n_11) x3 x4 x5 x6 = some u := h
      unfold bd_S_mostLeft_11 at h
      refine lv_iload hx hb dX5_mostLeft_11 (lv_at hl 6 rfl) ?_
      refine lv_bipush (v := 24) hx hb dX5_mostLeft_13 (by decide) ?_
      refine lv_icmp_gt (tgt := 87) hx hb dX5_mostLeft_15 (by decide) (fun c_15 => ?_) (fun c_15 => ?_)
      · have h := kk_t c_15 h
        refine lv_iload_n hx hb dX5_mostLeft_87 rfl (lv_at hl 3 rfl) ?_
        refine lv_iload hx hb dX5_mostLeft_88 (lv_at hl 4 rfl) ?_
        refine lv_iload hx hb dX5_mostLeft_90 (lv_at hl 5 rfl) ?_
        refine va_mmax hx hb (hml.trans hl.1.symm) hown (hts (.methodLink RX5 43 Lib.Math.max.name) (List.mem_of_getElem? (i := 1) rfl)) (hts (.static Lib.Math.max.name) (List.mem_of_getElem? (i := 2) rfl)) (hts (.initialized "java/lang/Math") (List.mem_of_getElem? (i := 3) rfl)) (hts (.code Lib.Math.max.name Lib.Math.max.code 2 (some .int)) (List.mem_of_getElem? (i := 4) rfl)) (Nat.le_of_ble_eq_true rfl) (Nat.le_of_ble_eq_true rfl) (Nat.zero_le _) (Nat.zero_le _) dX5_mostLeft_92 ?_
        refine va_mmax hx hb (hml.trans hl.1.symm) hown (hts (.methodLink RX5 43 Lib.Math.max.name) (List.mem_of_getElem? (i := 1) rfl)) (hts (.static Lib.Math.max.name) (List.mem_of_getElem? (i := 2) rfl)) (hts (.initialized "java/lang/Math") (List.mem_of_getElem? (i := 3) rfl)) (hts (.code Lib.Math.max.name Lib.Math.max.code 2 (some .int)) (List.mem_of_getElem? (i := 4) rfl)) (Nat.le_of_ble_eq_true rfl) (Nat.le_of_ble_eq_true rfl) (Nat.zero_le _) (Nat.zero_le _) dX5_mostLeft_95 ?_
        exact kk_ri hx hb hr hlocks hQ h dX5_mostLeft_98
      · have h := kk_f c_15 h
        refine lv_aload_n hx hb dX5_mostLeft_18 rfl (lv_at hl 0 rfl) ?_
        refine lv_iload hx hb dX5_mostLeft_19 (lv_at hl 6 rfl) ?_
        obtain ⟨u_21, h_21, h⟩ := kk_b h
        refine kk_si (va_runV (As := [.int x6]) (rest := []) ⟨hx, hb, hml, hown, hts⟩ (c_S_isFitting l D cy a x6 v_count v_ones v_others v_heavier u_21 h_21) (cwV 1 hts gX5_mostLeft_X5_isFitting rfl rfl rfl nv_S_isFitting ⟨Nat.le_of_ble_eq_true rfl, Nat.le_of_ble_eq_true rfl⟩) (kk_preRV hE (hP.sub [0, 1, 2, 3] rfl) (q0 := 0) (ci := 4) rfl rfl) rfl rfl hl.1 rfl (lv_room (Nat.le_of_ble_eq_true rfl)) dX5_mostLeft_21 ⟨Nat.zero_le _, Nat.zero_le _⟩) ?_
        refine lv_if_eq (tgt := 81) hx hb dX5_mostLeft_24 (by decide) (fun c_24 => ?_) (fun c_24 => ?_)
        · have h := kk_t c_24 h
          refine lv_iinc (v := x6 + 1) (lv' := [(6, .int (x6 + 1)), (0, .ref (a 0)), (1, .int x1), (2, .int x2), (3, .int x3), (4, .int x4), (5, .int x5)]) hx hb dX5_mostLeft_81 hl (k := 6) rfl rfl (by decide) rfl (fun ls hl => ?_)
          refine lv_goto (tgt := 11) hx hb dX5_mostLeft_84 (by decide) ?_
          exact ih_11 x3 x4 x5 (x6 + 1) _ (lv_sub hl [1, 2, 3, 4, 5, 6, 0] rfl) h
        · have h := kk_f c_24 h
          refine lv_iload hx hb dX5_mostLeft_27 (lv_at hl 6 rfl) ?_
          refine lv_iload_n hx hb dX5_mostLeft_29 rfl (lv_at hl 1 rfl) ?_
          refine lv_iload_n hx hb dX5_mostLeft_30 rfl (lv_at hl 2 rfl) ?_
          obtain ⟨u_31, h_31, h⟩ := kk_b h
          refine kk_si (va_runS (As := [.int x6, .int x1, .int x2]) (rest := []) ⟨hx, hb, hml, hown, hts⟩ (c_S_heavierIn l x6 x1 x2 u_31 h_31) (va_cwS 3 hts gX5_mostLeft_X5_heavierIn rfl rfl rfl nd_S_heavierIn ⟨Nat.le_of_ble_eq_true rfl, Nat.le_of_ble_eq_true rfl⟩) (kk_preS hE.2) rfl rfl hl.1 rfl (lv_room (Nat.le_of_ble_eq_true rfl)) dX5_mostLeft_31 ⟨Nat.zero_le _, Nat.zero_le _⟩) ?_
          refine lv_istore (lv' := [(7, .int u_31), (0, .ref (a 0)), (1, .int x1), (2, .int x2), (3, .int x3), (4, .int x4), (5, .int x5), (6, .int x6)]) hx hb dX5_mostLeft_34 hl (by decide) rfl (fun ls hl => ?_)
          refine lv_iload_n hx hb dX5_mostLeft_36 rfl (lv_at hl 4 rfl) ?_
          refine lv_iload hx hb dX5_mostLeft_37 (lv_at hl 0 rfl) ?_
          refine lv_if_ne (tgt := 46) hx hb dX5_mostLeft_39 (by decide) (fun c_39 => ?_) (fun c_39 => ?_)
          · have h := kk_f c_39 h
            refine lv_iconst (v := 0) hx hb dX5_mostLeft_46 (by decide) ?_
            exact J_47 x4 x5 x6 u_31 x3 0 _ (lv_sub hl [1, 2, 3, 5, 6, 7, 0] rfl) h
          · have h := kk_t c_39 h
            refine lv_iconst (v := 1) hx hb dX5_mostLeft_42 (by decide) ?_
            refine lv_goto (tgt := 47) hx hb dX5_mostLeft_43 (by decide) ?_
            exact J_47 x4 x5 x6 u_31 x3 1 _ (lv_sub hl [1, 2, 3, 5, 6, 7, 0] rfl) h
  refine lv_iconst (v := 0) hx hb dX5_mostLeft_0 (by decide) ?_
  refine lv_istore_n (lv' := [(3, .int 0), (0, .ref (a 0)), (1, .int p1), (2, .int p2)]) hx hb dX5_mostLeft_1 rfl hl (by decide) rfl (fun ls hl => ?_)
  refine lv_iconst (v := 0) hx hb dX5_mostLeft_2 (by decide) ?_
  refine lv_istore (lv' := [(4, .int 0), (3, .int 0), (0, .ref (a 0)), (1, .int p1), (2, .int p2)]) hx hb dX5_mostLeft_3 hl (by decide) rfl (fun ls hl => ?_)
  refine lv_iconst (v := 0) hx hb dX5_mostLeft_5 (by decide) ?_
  refine lv_istore (lv' := [(5, .int 0), (4, .int 0), (3, .int 0), (0, .ref (a 0)), (1, .int p1), (2, .int p2)]) hx hb dX5_mostLeft_6 hl (by decide) rfl (fun ls hl => ?_)
  refine lv_iconst (v := 0) hx hb dX5_mostLeft_8 (by decide) ?_
  refine lv_istore (lv' := [(6, .int 0), (5, .int 0), (4, .int 0), (3, .int 0), (0, .ref (a 0)), (1, .int p1), (2, .int p2)]) hx hb dX5_mostLeft_9 hl (by decide) rfl (fun ls hl => ?_)
  exact L_11 p1 p2 _ 0 0 0 0 _ (lv_sub hl [4, 5, 6, 3, 2, 1, 0] rfl) h
abbrev rm_I_bringBack : Room := { frames := 1, cells := 0, slots := 0, locals := 22 }
theorem nv_I_bringBack : yX1_bringBack.cls = RX1 ∧ yX1_bringBack.cls ≠ "java/lang/invoke/MethodHandle" ∧ yX1_bringBack.cls ≠ "java/lang/invoke/VarHandle" ∧ (parseMethodDescriptor yX1_bringBack.desc).map (fun d => d.parameters.length) = some 2 := by decide +kernel
abbrev wo_I_bringBack (cy : Nat → Nat) (a : Nat → Nat) (b : Nat → Nat) (d : Nat → Nat) (v_kept : Int32) (v_table_order : Int32) (v_table_peaCup : Int32) (v_table_round : Int32) (v_table_eyes : (Nat → Int32)) (v_table_coins : (Nat → Int32)) (v_table_thoughts : (Nat → Int32)) (v_sights_count : Int32) (v_sights_ones : (Nat → Int32)) (v_sights_others : (Nat → Int32)) (v_sights_heavier : (Nat → Int32)) (u : Int32 × Int32 × Int32 × (Nat → Int32) × (Nat → Int32) × (Nat → Int32) × Int32 × (Nat → Int32) × (Nat → Int32) × (Nat → Int32)) : va_W := [(a 0, .inr (1, [.ref (a 1), .ref (a 5), .int v_kept])), (a 1, .inr (6, [.int v_table_order, .int v_table_peaCup, .int v_table_round, .ref (a 2), .ref (a 3), .ref (a 4)])), (a 2, .inl (cy 0, 4, .inl v_table_eyes)), (a 3, .inl (cy 0, 4, .inl v_table_coins)), (a 4, .inl (cy 0, 4, .inl v_table_thoughts)), (a 5, .inr (4, [.ref (a 6), .ref (a 7), .ref (a 8), .int v_sights_count])), (a 6, .inl (cy 0, 8, .inl v_sights_ones)), (a 7, .inl (cy 0, 8, .inl v_sights_others)), (a 8, .inl (cy 0, 8, .inl v_sights_heavier)), (b 0, .inr (6, [.int u.1, .int u.2.1, .int u.2.2.1, .ref (b 1), .ref (b 2), .ref (b 3)])), (b 1, .inl (cy 0, 4, .inl u.2.2.2.1)), (b 2, .inl (cy 0, 4, .inl u.2.2.2.2.1)), (b 3, .inl (cy 0, 4, .inl u.2.2.2.2.2.1)), (d 0, .inr (4, [.ref (d 1), .ref (d 2), .ref (d 3), .int u.2.2.2.2.2.2.1])), (d 1, .inl (cy 0, 8, .inl u.2.2.2.2.2.2.2.1)), (d 2, .inl (cy 0, 8, .inl u.2.2.2.2.2.2.2.2.1)), (d 3, .inl (cy 0, 8, .inl u.2.2.2.2.2.2.2.2.2))]
set_option maxHeartbeats 4000000 in
set_option maxRecDepth 100000 in
theorem c_I_bringBack (l : Launch) (D : va_G) (cy : Nat → Nat) (a b d : Nat → Nat) (sz : Nat) (v_kept : Int32) (v_table_order : Int32) (v_table_peaCup : Int32) (v_table_round : Int32) (v_table_eyes : (Nat → Int32)) (v_table_coins : (Nat → Int32)) (v_table_thoughts : (Nat → Int32)) (v_sights_count : Int32) (v_sights_ones : (Nat → Int32)) (v_sights_others : (Nat → Int32)) (v_sights_heavier : (Nat → Int32)) (o_order : Int32) (o_peaCup : Int32) (o_round : Int32) (o_eyes : (Nat → Int32)) (o_coins : (Nat → Int32)) (o_thoughts : (Nat → Int32)) (q_count : Int32) (q_ones : (Nat → Int32)) (q_others : (Nat → Int32)) (q_heavier : (Nat → Int32)) (u : Int32 × Int32 × Int32 × (Nat → Int32) × (Nat → Int32) × (Nat → Int32) × Int32 × (Nat → Int32) × (Nat → Int32) × (Nat → Int32)) (h : f_I_bringBack v_table_order v_table_peaCup v_table_round v_table_eyes v_table_coins v_table_thoughts v_sights_count v_sights_ones v_sights_others v_sights_heavier o_order o_peaCup o_round o_eyes o_coins o_thoughts q_count q_ones q_others q_heavier = some u) : Met l yX1_bringBack wsX1_bringBack rm_I_bringBack (kk_PW D cy [(a 0, .inr (1, [.ref (a 1), .ref (a 5), .int v_kept])), (a 1, .inr (6, [.int v_table_order, .int v_table_peaCup, .int v_table_round, .ref (a 2), .ref (a 3), .ref (a 4)])), (a 2, .inl (cy 0, 4, .inl v_table_eyes)), (a 3, .inl (cy 0, 4, .inl v_table_coins)), (a 4, .inl (cy 0, 4, .inl v_table_thoughts)), (a 5, .inr (4, [.ref (a 6), .ref (a 7), .ref (a 8), .int v_sights_count])), (a 6, .inl (cy 0, 8, .inl v_sights_ones)), (a 7, .inl (cy 0, 8, .inl v_sights_others)), (a 8, .inl (cy 0, 8, .inl v_sights_heavier)), (b 0, .inr (6, [.int o_order, .int o_peaCup, .int o_round, .ref (b 1), .ref (b 2), .ref (b 3)])), (b 1, .inl (cy 0, 4, .inl o_eyes)), (b 2, .inl (cy 0, 4, .inl o_coins)), (b 3, .inl (cy 0, 4, .inl o_thoughts)), (d 0, .inr (4, [.ref (d 1), .ref (d 2), .ref (d 3), .int q_count])), (d 1, .inl (cy 0, 8, .inl q_ones)), (d 2, .inl (cy 0, 8, .inl q_others)), (d 3, .inl (cy 0, 8, .inl q_heavier))] sz [.ref (a 0), .ref (b 0), .ref (d 0)]) (kk_Qv D (wo_I_bringBack cy a b d v_kept v_table_order v_table_peaCup v_table_round v_table_eyes v_table_coins v_table_thoughts v_sights_count v_sights_ones v_sights_others v_sights_heavier u) (va_A [(a 0, .inr (1, [.ref (a 1), .ref (a 5), .int v_kept])), (a 1, .inr (6, [.int v_table_order, .int v_table_peaCup, .int v_table_round, .ref (a 2), .ref (a 3), .ref (a 4)])), (a 2, .inl (cy 0, 4, .inl v_table_eyes)), (a 3, .inl (cy 0, 4, .inl v_table_coins)), (a 4, .inl (cy 0, 4, .inl v_table_thoughts)), (a 5, .inr (4, [.ref (a 6), .ref (a 7), .ref (a 8), .int v_sights_count])), (a 6, .inl (cy 0, 8, .inl v_sights_ones)), (a 7, .inl (cy 0, 8, .inl v_sights_others)), (a 8, .inl (cy 0, 8, .inl v_sights_heavier)), (b 0, .inr (6, [.int o_order, .int o_peaCup, .int o_round, .ref (b 1), .ref (b 2), .ref (b 3)])), (b 1, .inl (cy 0, 4, .inl o_eyes)), (b 2, .inl (cy 0, 4, .inl o_coins)), (b 3, .inl (cy 0, 4, .inl o_thoughts)), (d 0, .inr (4, [.ref (d 1), .ref (d 2), .ref (d 3), .int q_count])), (d 1, .inl (cy 0, 8, .inl q_ones)), (d 2, .inl (cy 0, 8, .inl q_others)), (d 3, .inl (cy 0, 8, .inl q_heavier))] sz)) 0 0 (va_A [(a 0, .inr (1, [.ref (a 1), .ref (a 5), .int v_kept])), (a 1, .inr (6, [.int v_table_order, .int v_table_peaCup, .int v_table_round, .ref (a 2), .ref (a 3), .ref (a 4)])), (a 2, .inl (cy 0, 4, .inl v_table_eyes)), (a 3, .inl (cy 0, 4, .inl v_table_coins)), (a 4, .inl (cy 0, 4, .inl v_table_thoughts)), (a 5, .inr (4, [.ref (a 6), .ref (a 7), .ref (a 8), .int v_sights_count])), (a 6, .inl (cy 0, 8, .inl v_sights_ones)), (a 7, .inl (cy 0, 8, .inl v_sights_others)), (a 8, .inl (cy 0, 8, .inl v_sights_heavier)), (b 0, .inr (6, [.int o_order, .int o_peaCup, .int o_round, .ref (b 1), .ref (b 2), .ref (b 3)])), (b 1, .inl (cy 0, 4, .inl o_eyes)), (b 2, .inl (cy 0, 4, .inl o_coins)), (b 3, .inl (cy 0, 4, .inl o_thoughts)), (d 0, .inr (4, [.ref (d 1), .ref (d 2), .ref (d 3), .int q_count])), (d 1, .inl (cy 0, 8, .inl q_ones)), (d 2, .inl (cy 0, 8, .inl q_others)), (d 3, .inl (cy 0, 8, .inl q_heavier))] sz) := by
  refine kk_met (cc := cX1_bringBack) (maxL := 3) (ret := none) (by decide) rfl (Nat.le_of_ble_eq_true rfl) ?_
  intro p e s m below meth c hx hb hr hml hts hown hlocks hB ls hl Q hQ
  obtain ⟨hsz, hP, hE, hD0⟩ := hB
  subst hsz
  have hD := hD0.self (sz := s.heap.size)
  generalize hAe : va_A [(a 0, .inr (1, [.ref (a 1), .ref (a 5), .int v_kept])), (a 1, .inr (6, [.int v_table_order, .int v_table_peaCup, .int v_table_round, .ref (a 2), .ref (a 3), .ref (a 4)])), (a 2, .inl (cy 0, 4, .inl v_table_eyes)), (a 3, .inl (cy 0, 4, .inl v_table_coins)), (a 4, .inl (cy 0, 4, .inl v_table_thoughts)), (a 5, .inr (4, [.ref (a 6), .ref (a 7), .ref (a 8), .int v_sights_count])), (a 6, .inl (cy 0, 8, .inl v_sights_ones)), (a 7, .inl (cy 0, 8, .inl v_sights_others)), (a 8, .inl (cy 0, 8, .inl v_sights_heavier)), (b 0, .inr (6, [.int o_order, .int o_peaCup, .int o_round, .ref (b 1), .ref (b 2), .ref (b 3)])), (b 1, .inl (cy 0, 4, .inl o_eyes)), (b 2, .inl (cy 0, 4, .inl o_coins)), (b 3, .inl (cy 0, 4, .inl o_thoughts)), (d 0, .inr (4, [.ref (d 1), .ref (d 2), .ref (d 3), .int q_count])), (d 1, .inl (cy 0, 8, .inl q_ones)), (d 2, .inl (cy 0, 8, .inl q_others)), (d 3, .inl (cy 0, 8, .inl q_heavier))] s.heap.size = A at hD hQ
  have hA : ∀ q : Nat, s.heap.size ≤ q → A q := fun q h => by rw [← hAe]; exact Or.inr h
  have hS : va_S A s.heap s.heap [] := va_S.rf
  have hown : s.vm.findClass RX1 = some m.cls := hown
  have hl : lv_has ls 3 [(0, .ref (a 0)), (1, .ref (b 0)), (2, .ref (d 0))] := hl
  unfold f_I_bringBack at h
  refine lv_aload_n hx hb dX1_bringBack_0 rfl (lv_at hl 1 rfl) ?_
  refine lv_aload_n hx hb dX1_bringBack_1 rfl (lv_at hl 0 rfl) ?_
  refine va_get (D := D) (ci := 1) (v := .ref (a 1)) (C := RX1) (T := TX1) (N := 3) hx hb hts (fun _ h9 => List.mem_cons_of_mem _ (List.mem_append_left _ (List.mem_append_left _ (List.mem_append_right _ h9)))) hown hE.1 hP 0 rfl rfl 0 (by decide) (hts (.fieldLink RX1 10 "PeaCups$Image" "table" "LPeaCups$Table;") (List.mem_of_getElem? (i := 1) rfl)) (fun _ h9 => h9) rfl dX1_bringBack_2 ?_
  obtain ⟨u_5, h_5, h⟩ := kk_b h
  refine kk_wv (wn := [(a 0, .inr (1, [.ref (a 1), .ref (a 5), .int v_kept])), (a 1, .inr (6, [.int v_table_order, .int v_table_peaCup, .int v_table_round, .ref (a 2), .ref (a 3), .ref (a 4)])), (a 2, .inl (cy 0, 4, .inl v_table_eyes)), (a 3, .inl (cy 0, 4, .inl v_table_coins)), (a 4, .inl (cy 0, 4, .inl v_table_thoughts)), (a 5, .inr (4, [.ref (a 6), .ref (a 7), .ref (a 8), .int v_sights_count])), (a 6, .inl (cy 0, 8, .inl v_sights_ones)), (a 7, .inl (cy 0, 8, .inl v_sights_others)), (a 8, .inl (cy 0, 8, .inl v_sights_heavier)), (b 0, .inr (6, [.int u_5.1, .int u_5.2.1, .int u_5.2.2.1, .ref (b 1), .ref (b 2), .ref (b 3)])), (b 1, .inl (cy 0, 4, .inl u_5.2.2.2.1)), (b 2, .inl (cy 0, 4, .inl u_5.2.2.2.2.1)), (b 3, .inl (cy 0, 4, .inl u_5.2.2.2.2.2)), (d 0, .inr (4, [.ref (d 1), .ref (d 2), .ref (d 3), .int q_count])), (d 1, .inl (cy 0, 8, .inl q_ones)), (d 2, .inl (cy 0, 8, .inl q_others)), (d 3, .inl (cy 0, 8, .inl q_heavier))]) (va_runV (As := [.ref (a 1)]) (rest := []) ⟨hx, hb, hml, hown, hts⟩ (c_T_copyFrom l D cy b (fun k => a (k + 1)) _ o_order o_peaCup o_round o_eyes o_coins o_thoughts v_table_order v_table_peaCup v_table_round v_table_eyes v_table_coins v_table_thoughts u_5 h_5) (cwV 1 hts gX1_bringBack_X7_copyFrom rfl rfl rfl nv_T_copyFrom ⟨Nat.le_of_ble_eq_true rfl, Nat.le_of_ble_eq_true rfl⟩) (kk_preWV hE (hP.sub [9, 10, 11, 12, 1, 2, 3, 4] rfl) (hD.sub [9, 10, 11, 12, 1, 2, 3, 4] (by decide) rfl) (q0 := 0) (ci := 6) rfl rfl) rfl rfl hl.1 rfl (lv_room (Nat.le_of_ble_eq_true rfl)) dX1_bringBack_5 ⟨Nat.zero_le _, Nat.zero_le _⟩) hP hD hS hA [9, 10, 11, 12, 1, 2, 3, 4] [0, 5, 6, 7, 8, 13, 14, 15, 16] [0, 13, 14, 15, 16, 1, 2, 3, 4, 9, 10, 11, 12, 5, 6, 7, 8] rfl rfl (by decide) (by decide) (by decide) rfl (fun H locs hP hD hS => ?_)
  refine lv_aload_n hx hb dX1_bringBack_8 rfl (lv_at hl 2 rfl) ?_
  refine lv_aload_n hx hb dX1_bringBack_9 rfl (lv_at hl 0 rfl) ?_
  refine va_get (D := D) (ci := 1) (v := .ref (a 5)) (C := RX1) (T := TX1) (N := 3) hx hb hts (fun _ h9 => List.mem_cons_of_mem _ (List.mem_append_left _ (List.mem_append_left _ (List.mem_append_right _ h9)))) hown hE.1 hP 0 rfl rfl 1 (by decide) (hts (.fieldLink RX1 19 "PeaCups$Image" "sights" "LPeaCups$Sights;") (List.mem_of_getElem? (i := 2) rfl)) (fun _ h9 => h9) rfl dX1_bringBack_10 ?_
  obtain ⟨u_13, h_13, h⟩ := kk_b h
  refine kk_wv (wn := [(a 0, .inr (1, [.ref (a 1), .ref (a 5), .int v_kept])), (a 1, .inr (6, [.int v_table_order, .int v_table_peaCup, .int v_table_round, .ref (a 2), .ref (a 3), .ref (a 4)])), (a 2, .inl (cy 0, 4, .inl v_table_eyes)), (a 3, .inl (cy 0, 4, .inl v_table_coins)), (a 4, .inl (cy 0, 4, .inl v_table_thoughts)), (a 5, .inr (4, [.ref (a 6), .ref (a 7), .ref (a 8), .int v_sights_count])), (a 6, .inl (cy 0, 8, .inl v_sights_ones)), (a 7, .inl (cy 0, 8, .inl v_sights_others)), (a 8, .inl (cy 0, 8, .inl v_sights_heavier)), (b 0, .inr (6, [.int u_5.1, .int u_5.2.1, .int u_5.2.2.1, .ref (b 1), .ref (b 2), .ref (b 3)])), (b 1, .inl (cy 0, 4, .inl u_5.2.2.2.1)), (b 2, .inl (cy 0, 4, .inl u_5.2.2.2.2.1)), (b 3, .inl (cy 0, 4, .inl u_5.2.2.2.2.2)), (d 0, .inr (4, [.ref (d 1), .ref (d 2), .ref (d 3), .int u_13.1])), (d 1, .inl (cy 0, 8, .inl u_13.2.1)), (d 2, .inl (cy 0, 8, .inl u_13.2.2.1)), (d 3, .inl (cy 0, 8, .inl u_13.2.2.2))]) (va_runV (As := [.ref (a 5)]) (rest := []) ⟨hx, hb, hml, hown, hts⟩ (c_S_copyFrom l D cy d (fun k => a (k + 5)) _ q_count q_ones q_others q_heavier v_sights_count v_sights_ones v_sights_others v_sights_heavier u_13 h_13) (cwV 1 hts gX1_bringBack_X5_copyFrom rfl rfl rfl nv_S_copyFrom ⟨Nat.le_of_ble_eq_true rfl, Nat.le_of_ble_eq_true rfl⟩) (kk_preWV hE (hP.sub [13, 14, 15, 16, 5, 6, 7, 8] rfl) (hD.sub [13, 14, 15, 16, 5, 6, 7, 8] (by decide) rfl) (q0 := 0) (ci := 4) rfl rfl) rfl rfl hl.1 rfl (lv_room (Nat.le_of_ble_eq_true rfl)) dX1_bringBack_13 ⟨Nat.zero_le _, Nat.zero_le _⟩) hP hD hS hA [13, 14, 15, 16, 5, 6, 7, 8] [0, 1, 2, 3, 4, 9, 10, 11, 12] [0, 1, 2, 3, 4, 13, 14, 15, 16, 5, 6, 7, 8, 9, 10, 11, 12] rfl rfl (by decide) (by decide) (by decide) rfl (fun H locs hP hD hS => ?_)
  exact kk_rwv (wf := wo_I_bringBack cy a b d v_kept v_table_order v_table_peaCup v_table_round v_table_eyes v_table_coins v_table_thoughts v_sights_count v_sights_ones v_sights_others v_sights_heavier) hx hb hr hlocks h hQ hP hD hS dX1_bringBack_16
abbrev rm_G_isWonFrom : Room := { frames := 1, cells := 0, slots := 0, locals := 22 }
theorem nv_G_isWonFrom : yX6_isWonFrom.cls = RX6 ∧ yX6_isWonFrom.cls ≠ "java/lang/invoke/MethodHandle" ∧ yX6_isWonFrom.cls ≠ "java/lang/invoke/VarHandle" ∧ (parseMethodDescriptor yX6_isWonFrom.desc).map (fun d => d.parameters.length) = some 1 := by decide +kernel
set_option maxHeartbeats 4000000 in
set_option maxRecDepth 100000 in
theorem c_G_isWonFrom (l : Launch) (D : va_G) (cy : Nat → Nat) (a : Nat → Nat) (p1 : Int32) (v_isFound : Int32) (v_won : (Nat → Int64)) (u : Int32) (h : f_G_isWonFrom p1 v_won = some u) : Met l yX6_isWonFrom wsX6_isWonFrom rm_G_isWonFrom (kk_PR D cy [(a 0, .inr (5, [.ref (a 1), .int v_isFound])), (a 1, .inl (cy 1, 16, .inr (.inl v_won)))] [.ref (a 0), .int p1]) (vp_Si (fun r => r = u)) 0 0 (fun _ => False) := by
  refine kk_met (cc := cX6_isWonFrom) (maxL := 2) (ret := some .boolean) (by decide) rfl (Nat.le_of_ble_eq_true rfl) ?_
  intro p e s m below meth c hx hb hr hml hts hown hlocks hB ls hl Q hQ
  obtain ⟨hP, hE⟩ := hB
  have hown : s.vm.findClass RX6 = some m.cls := hown
  have hl : lv_has ls 2 [(0, .ref (a 0)), (1, .int p1)] := hl
  unfold f_G_isWonFrom at h
  refine lv_iload_n hx hb dX6_isWonFrom_0 rfl (lv_at hl 1 rfl) ?_
  refine lv_iconst (v := 0) hx hb dX6_isWonFrom_1 (by decide) ?_
  refine lv_sipush (v := 999) hx hb dX6_isWonFrom_2 (by decide) ?_
  obtain ⟨u_5, h_5, h⟩ := kk_b h
  refine kk_si (va_runSN (As := [.int p1, .int 0, .int 999]) (rest := []) ⟨hx, hb, hml, hown, hts⟩ (c_C_isWithin l p1 0 999 u_5 h_5) ⟨va_cnB 3 hts ggX6_isWonFrom_X9_isWithin rfl rfl rfl (hE.2 _ (List.mem_of_getElem? (i := 16) rfl)) (hts (.initialized RX9) (List.mem_of_getElem? (i := 3) rfl)) nd_C_isWithin ⟨Nat.le_of_ble_eq_true rfl, Nat.le_of_ble_eq_true rfl⟩, (hts (.static yX9_isWithin) (List.mem_of_getElem? (i := 2) rfl)), trivial⟩ (kk_preS hE.2) rfl rfl hl.1 rfl (lv_room (Nat.le_of_ble_eq_true rfl)) dX6_isWonFrom_5 ⟨Nat.zero_le _, Nat.zero_le _⟩) ?_
  refine lv_if_eq (tgt := 36) hx hb dX6_isWonFrom_8 (by decide) (fun c_8 => ?_) (fun c_8 => ?_)
  · have h := kk_t c_8 h
    refine lv_iconst (v := 0) hx hb dX6_isWonFrom_36 (by decide) ?_
    exact kk_rz hx hb hr hlocks hQ rfl h dX6_isWonFrom_37
  · have h := kk_f c_8 h
    refine lv_aload_n hx hb dX6_isWonFrom_11 rfl (lv_at hl 0 rfl) ?_
    refine va_get (D := D) (ci := 5) (v := .ref (a 1)) (C := RX6) (T := TX6) (N := 2) hx hb hts (fun _ h9 => List.mem_cons_of_mem _ (List.mem_append_right _ h9)) hown hE.1 hP 0 rfl rfl 0 (by decide) (hts (.fieldLink RX6 11 "PeaCups$SquareGame" "won" "[J") (List.mem_of_getElem? (i := 1) rfl)) (fun _ h9 => h9) rfl dX6_isWonFrom_12 ?_
    refine lv_iload_n hx hb dX6_isWonFrom_15 rfl (lv_at hl 1 rfl) ?_
    refine lv_bipush (v := 6) hx hb dX6_isWonFrom_16 (by decide) ?_
    refine lv_ishr hx hb dX6_isWonFrom_18 ?_
    obtain ⟨i_19, h⟩ := kk_x h
    refine va_lald hx hb hE.1 hP 1 1 rfl rfl i_19 dX6_isWonFrom_19 ?_
    refine lv_iload_n hx hb dX6_isWonFrom_20 rfl (lv_at hl 1 rfl) ?_
    refine lv_bipush (v := 63) hx hb dX6_isWonFrom_21 (by decide) ?_
    refine lv_iand hx hb dX6_isWonFrom_23 ?_
    refine lv_lshr hx hb dX6_isWonFrom_24 rfl ?_
    refine lv_lconst (v := 1) hx hb dX6_isWonFrom_25 (by decide) ?_
    refine lv_land hx hb dX6_isWonFrom_26 ?_
    refine lv_lconst (v := 1) hx hb dX6_isWonFrom_27 (by decide) ?_
    refine W.lcmp hx hb dX6_isWonFrom_28 ?_
    refine lv_if_ne (tgt := 36) hx hb dX6_isWonFrom_29 (by decide) (fun c_29 => ?_) (fun c_29 => ?_)
    · have h := kk_f c_29 h
      refine lv_iconst (v := 0) hx hb dX6_isWonFrom_36 (by decide) ?_
      exact kk_rz hx hb hr hlocks hQ rfl h dX6_isWonFrom_37
    · have h := kk_t c_29 h
      refine lv_iconst (v := 1) hx hb dX6_isWonFrom_32 (by decide) ?_
      refine lv_goto (tgt := 37) hx hb dX6_isWonFrom_33 (by decide) ?_
      exact kk_rz hx hb hr hlocks hQ rfl h dX6_isWonFrom_37
abbrev rm_G_markAllAbove : Room := { frames := 1, cells := 0, slots := 0, locals := 22 }
theorem nv_G_markAllAbove : yX6_markAllAbove.cls = RX6 ∧ yX6_markAllAbove.cls ≠ "java/lang/invoke/MethodHandle" ∧ yX6_markAllAbove.cls ≠ "java/lang/invoke/VarHandle" ∧ (parseMethodDescriptor yX6_markAllAbove.desc).map (fun d => d.parameters.length) = some 1 := by decide +kernel
abbrev wo_G_markAllAbove (cy : Nat → Nat) (a : Nat → Nat) (v_isFound : Int32) (u : (Nat → Int64)) : va_W := [(a 0, .inr (5, [.ref (a 1), .int v_isFound])), (a 1, .inl (cy 1, 16, .inr (.inl u)))]
set_option maxHeartbeats 4000000 in
set_option maxRecDepth 100000 in
theorem c_G_markAllAbove (l : Launch) (D : va_G) (cy : Nat → Nat) (a : Nat → Nat) (sz : Nat) (p1 : Int32) (v_isFound : Int32) (v_won : (Nat → Int64)) (u : (Nat → Int64)) (h : f_G_markAllAbove p1 v_won = some u) : Met l yX6_markAllAbove wsX6_markAllAbove rm_G_markAllAbove (kk_PW D cy [(a 0, .inr (5, [.ref (a 1), .int v_isFound])), (a 1, .inl (cy 1, 16, .inr (.inl v_won)))] sz [.ref (a 0), .int p1]) (kk_Qv D (wo_G_markAllAbove cy a v_isFound u) (va_A [(a 0, .inr (5, [.ref (a 1), .int v_isFound])), (a 1, .inl (cy 1, 16, .inr (.inl v_won)))] sz)) 0 0 (va_A [(a 0, .inr (5, [.ref (a 1), .int v_isFound])), (a 1, .inl (cy 1, 16, .inr (.inl v_won)))] sz) := by
  refine kk_met (cc := cX6_markAllAbove) (maxL := 4) (ret := none) (by decide) rfl (Nat.le_of_ble_eq_true rfl) ?_
  intro p e s m below meth c hx hb hr hml hts hown hlocks hB ls hl Q hQ
  obtain ⟨hsz, hP, hE, hD0⟩ := hB
  subst hsz
  have hD := hD0.self (sz := s.heap.size)
  generalize hAe : va_A [(a 0, .inr (5, [.ref (a 1), .int v_isFound])), (a 1, .inl (cy 1, 16, .inr (.inl v_won)))] s.heap.size = A at hD hQ
  have hA : ∀ q : Nat, s.heap.size ≤ q → A q := fun q h => by rw [← hAe]; exact Or.inr h
  have hS : va_S A s.heap s.heap [] := va_S.rf
  have hown : s.vm.findClass RX6 = some m.cls := hown
  have hl : lv_has ls 4 [(0, .ref (a 0)), (1, .int p1)] := hl
  unfold f_G_markAllAbove at h
  have L_2 : ∀ (x1 : Int32) (n_2 : Nat) (x2 : Int32) (v_won : (Nat → Int64)) (H : Heap) (locs : List Loc) (hP : va_P D vwCl [(a 0, .inr (5, [.ref (a 1), .int v_isFound])), (a 1, .inl (cy 1, 16, .inr (.inl v_won)))] H) (hD : va_D A [(a 0, .inr (5, [.ref (a 1), .int v_isFound])), (a 1, .inl (cy 1, 16, .inr (.inl v_won)))]) (hS : va_S A s.heap H locs) (ls : Array Slot) (hl : lv_has ls 4 [(0, .ref (a 0)), (1, .int x1), (2, .int x2)]) (h : it2 (bd_G_markAllAbove_2 x1) n_2 x2 v_won = some u), W p l e rm_G_markAllAbove s m [.ref (a 0), .int p1].toArray below meth c H locs 0 0 Q (F0 m 2 ls []) := by
    intro x1 n_2
    induction n_2 with
    | zero => intro x2 v_won H locs hP hD hS ls hl h; exact kk_no h
    | succ n_2 ih_2 =>
      intro x2 v_won H locs hP hD hS ls hl h
      have h : bd_G_markAllAbove_2 x1 (it2 (bd_G_markAllAbove_2 x1) n_2) x2 v_won = some u := h
      unfold bd_G_markAllAbove_2 at h
      refine lv_iload_n hx hb dX6_markAllAbove_2 rfl (lv_at hl 2 rfl) ?_
      refine lv_bipush (v := 31) hx hb dX6_markAllAbove_3 (by decide) ?_
      refine lv_icmp_gt (tgt := 49) hx hb dX6_markAllAbove_5 (by decide) (fun c_5 => ?_) (fun c_5 => ?_)
      · have h := kk_t c_5 h
        exact kk_rwv (wf := wo_G_markAllAbove cy a v_isFound) hx hb hr hlocks h hQ hP hD hS dX6_markAllAbove_49
      · have h := kk_f c_5 h
        refine lv_iload_n hx hb dX6_markAllAbove_8 rfl (lv_at hl 1 rfl) ?_
        refine lv_iload_n hx hb dX6_markAllAbove_9 rfl (lv_at hl 2 rfl) ?_
        refine lv_iload_n hx hb dX6_markAllAbove_10 rfl (lv_at hl 2 rfl) ?_
        refine lv_imul hx hb dX6_markAllAbove_11 ?_
        refine lv_iadd hx hb dX6_markAllAbove_12 ?_
        refine lv_istore_n (lv' := [(3, .int (x1 + (x2 * x2))), (0, .ref (a 0)), (1, .int x1), (2, .int x2)]) hx hb dX6_markAllAbove_13 rfl hl (by decide) rfl (fun ls hl => ?_)
        refine lv_iload_n hx hb dX6_markAllAbove_14 rfl (lv_at hl 0 rfl) ?_
        refine lv_iconst (v := 0) hx hb dX6_markAllAbove_15 (by decide) ?_
        refine lv_sipush (v := 999) hx hb dX6_markAllAbove_16 (by decide) ?_
        obtain ⟨u_19, h_19, h⟩ := kk_b h
        refine kk_si (va_runSN (As := [.int (x1 + (x2 * x2)), .int 0, .int 999]) (rest := []) ⟨hx, hb, hml, hown, hts⟩ (c_C_isWithin l (x1 + (x2 * x2)) 0 999 u_19 h_19) ⟨va_cnB 3 hts ggX6_markAllAbove_X9_isWithin rfl rfl rfl (hE.2 _ (List.mem_of_getElem? (i := 16) rfl)) (hts (.initialized RX9) (List.mem_of_getElem? (i := 3) rfl)) nd_C_isWithin ⟨Nat.le_of_ble_eq_true rfl, Nat.le_of_ble_eq_true rfl⟩, (hts (.static yX9_isWithin) (List.mem_of_getElem? (i := 2) rfl)), trivial⟩ (kk_preS hE.2) rfl rfl hl.1 rfl (lv_room (Nat.le_of_ble_eq_true rfl)) dX6_markAllAbove_19 ⟨Nat.zero_le _, Nat.zero_le _⟩) ?_
        refine lv_if_eq (tgt := 43) hx hb dX6_markAllAbove_22 (by decide) (fun c_22 => ?_) (fun c_22 => ?_)
        · have h := kk_t c_22 h
          refine lv_iinc (v := x2 + 1) (lv' := [(2, .int (x2 + 1)), (3, .int (x1 + (x2 * x2))), (0, .ref (a 0)), (1, .int x1)]) hx hb dX6_markAllAbove_43 hl (k := 3) rfl rfl (by decide) rfl (fun ls hl => ?_)
          refine lv_goto (tgt := 2) hx hb dX6_markAllAbove_46 (by decide) ?_
          exact ih_2 (x2 + 1) v_won _ _ hP hD hS _ (lv_sub hl [2, 3, 0] rfl) h
        · have h := kk_f c_22 h
          refine lv_aload_n hx hb dX6_markAllAbove_25 rfl (lv_at hl 1 rfl) ?_
          refine va_get (D := D) (ci := 5) (v := .ref (a 1)) (C := RX6) (T := TX6) (N := 2) hx hb hts (fun _ h9 => List.mem_cons_of_mem _ (List.mem_append_right _ h9)) hown hE.1 hP 0 rfl rfl 0 (by decide) (hts (.fieldLink RX6 11 "PeaCups$SquareGame" "won" "[J") (List.mem_of_getElem? (i := 1) rfl)) (fun _ h9 => h9) rfl dX6_markAllAbove_26 ?_
          refine lv_iload_n hx hb dX6_markAllAbove_29 rfl (lv_at hl 0 rfl) ?_
          refine lv_bipush (v := 6) hx hb dX6_markAllAbove_30 (by decide) ?_
          refine lv_ishr hx hb dX6_markAllAbove_32 ?_
          refine lv_dup2_11 hx hb dX6_markAllAbove_33 rfl rfl ?_
          obtain ⟨i_34, h⟩ := kk_x h
          refine va_lald hx hb hE.1 hP 1 1 rfl rfl i_34 dX6_markAllAbove_34 ?_
          refine lv_lconst (v := 1) hx hb dX6_markAllAbove_35 (by decide) ?_
          refine lv_iload_n hx hb dX6_markAllAbove_36 rfl (lv_at hl 0 rfl) ?_
          refine lv_bipush (v := 63) hx hb dX6_markAllAbove_37 (by decide) ?_
          refine lv_iand hx hb dX6_markAllAbove_39 ?_
          refine lv_lshl hx hb dX6_markAllAbove_40 rfl ?_
          refine lv_lor hx hb dX6_markAllAbove_41 ?_
          obtain ⟨i_42, h⟩ := kk_x h
          refine va_last hx hb hE.1 hP hD hS 1 1 rfl rfl i_42 dX6_markAllAbove_42 (fun H locs hP hD hS => ?_)
          have hP : va_P D vwCl [(a 0, .inr (5, [.ref (a 1), .int v_isFound])), (a 1, .inl (cy 1, 16, .inr (.inl (vp_updL v_won ((x1 + (x2 * x2)) >>> (6 &&& 31) : Int32).toNatClampNeg ((v_won ((x1 + (x2 * x2)) >>> (6 &&& 31) : Int32).toNatClampNeg) ||| ((1 : Int64) <<< (Int32.toInt64 ((x1 + (x2 * x2)) &&& 63) &&& 63)))))))] H := hP
          have hD : va_D A [(a 0, .inr (5, [.ref (a 1), .int v_isFound])), (a 1, .inl (cy 1, 16, .inr (.inl (vp_updL v_won ((x1 + (x2 * x2)) >>> (6 &&& 31) : Int32).toNatClampNeg ((v_won ((x1 + (x2 * x2)) >>> (6 &&& 31) : Int32).toNatClampNeg) ||| ((1 : Int64) <<< (Int32.toInt64 ((x1 + (x2 * x2)) &&& 63) &&& 63)))))))] := hD
          refine lv_iinc (v := x2 + 1) (lv' := [(2, .int (x2 + 1)), (3, .int (x1 + (x2 * x2))), (0, .ref (a 0)), (1, .int x1)]) hx hb dX6_markAllAbove_43 hl (k := 3) rfl rfl (by decide) rfl (fun ls hl => ?_)
          refine lv_goto (tgt := 2) hx hb dX6_markAllAbove_46 (by decide) ?_
          exact ih_2 (x2 + 1) (vp_updL v_won ((x1 + (x2 * x2)) >>> (6 &&& 31) : Int32).toNatClampNeg ((v_won ((x1 + (x2 * x2)) >>> (6 &&& 31) : Int32).toNatClampNeg) ||| ((1 : Int64) <<< (Int32.toInt64 ((x1 + (x2 * x2)) &&& 63) &&& 63)))) _ _ hP hD hS _ (lv_sub hl [2, 3, 0] rfl) h
  refine lv_iconst (v := 1) hx hb dX6_markAllAbove_0 (by decide) ?_
  refine lv_istore_n (lv' := [(2, .int 1), (0, .ref (a 0)), (1, .int p1)]) hx hb dX6_markAllAbove_1 rfl hl (by decide) rfl (fun ls hl => ?_)
  exact L_2 p1 _ 1 v_won _ _ hP hD hS _ (lv_sub hl [1, 2, 0] rfl) h
abbrev rm_G_findAll : Room := { frames := 2, cells := 0, slots := 0, locals := 45 }
theorem nv_G_findAll : yX6_findAll.cls = RX6 ∧ yX6_findAll.cls ≠ "java/lang/invoke/MethodHandle" ∧ yX6_findAll.cls ≠ "java/lang/invoke/VarHandle" ∧ (parseMethodDescriptor yX6_findAll.desc).map (fun d => d.parameters.length) = some 0 := by decide +kernel
abbrev wo_G_findAll (cy : Nat → Nat) (a : Nat → Nat) (u : Int32 × (Nat → Int64)) : va_W := [(a 0, .inr (5, [.ref (a 1), .int u.1])), (a 1, .inl (cy 1, 16, .inr (.inl u.2)))]
set_option maxHeartbeats 4000000 in
set_option maxRecDepth 100000 in
theorem c_G_findAll (l : Launch) (D : va_G) (cy : Nat → Nat) (a : Nat → Nat) (sz : Nat) (v_isFound : Int32) (v_won : (Nat → Int64)) (u : Int32 × (Nat → Int64)) (h : f_G_findAll v_isFound v_won = some u) : Met l yX6_findAll wsX6_findAll rm_G_findAll (kk_PW D cy [(a 0, .inr (5, [.ref (a 1), .int v_isFound])), (a 1, .inl (cy 1, 16, .inr (.inl v_won)))] sz [.ref (a 0)]) (kk_Qv D (wo_G_findAll cy a u) (va_A [(a 0, .inr (5, [.ref (a 1), .int v_isFound])), (a 1, .inl (cy 1, 16, .inr (.inl v_won)))] sz)) 0 0 (va_A [(a 0, .inr (5, [.ref (a 1), .int v_isFound])), (a 1, .inl (cy 1, 16, .inr (.inl v_won)))] sz) := by
  refine kk_met (cc := cX6_findAll) (maxL := 2) (ret := none) (by decide) rfl (Nat.le_of_ble_eq_true rfl) ?_
  intro p e s m below meth c hx hb hr hml hts hown hlocks hB ls hl Q hQ
  obtain ⟨hsz, hP, hE, hD0⟩ := hB
  subst hsz
  have hD := hD0.self (sz := s.heap.size)
  generalize hAe : va_A [(a 0, .inr (5, [.ref (a 1), .int v_isFound])), (a 1, .inl (cy 1, 16, .inr (.inl v_won)))] s.heap.size = A at hD hQ
  have hA : ∀ q : Nat, s.heap.size ≤ q → A q := fun q h => by rw [← hAe]; exact Or.inr h
  have hS : va_S A s.heap s.heap [] := va_S.rf
  have hown : s.vm.findClass RX6 = some m.cls := hown
  have hl : lv_has ls 2 [(0, .ref (a 0))] := hl
  unfold f_G_findAll at h
  have L_15 : ∀ (v_isFound : Int32) (n_15 : Nat) (x1 : Int32) (v_won : (Nat → Int64)) (H : Heap) (locs : List Loc) (hP : va_P D vwCl [(a 0, .inr (5, [.ref (a 1), .int v_isFound])), (a 1, .inl (cy 1, 16, .inr (.inl v_won)))] H) (hD : va_D A [(a 0, .inr (5, [.ref (a 1), .int v_isFound])), (a 1, .inl (cy 1, 16, .inr (.inl v_won)))]) (hS : va_S A s.heap H locs) (ls : Array Slot) (hl : lv_has ls 2 [(0, .ref (a 0)), (1, .int x1)]) (h : it2 (bd_G_findAll_15 v_isFound) n_15 x1 v_won = some u), W p l e rm_G_findAll s m [.ref (a 0)].toArray below meth c H locs 0 0 Q (F0 m 15 ls []) := by
    intro v_isFound n_15
    induction n_15 with
    | zero => intro x1 v_won H locs hP hD hS ls hl h; exact kk_no h
    | succ n_15 ih_15 =>
      intro x1 v_won H locs hP hD hS ls hl h
      have h : bd_G_findAll_15 v_isFound (it2 (bd_G_findAll_15 v_isFound) n_15) x1 v_won = some u := h
      unfold bd_G_findAll_15 at h
      refine lv_iload_n hx hb dX6_findAll_15 rfl (lv_at hl 1 rfl) ?_
      refine lv_sipush (v := 999) hx hb dX6_findAll_16 (by decide) ?_
      refine lv_icmp_gt (tgt := 41) hx hb dX6_findAll_19 (by decide) (fun c_19 => ?_) (fun c_19 => ?_)
      · have h := kk_t c_19 h
        exact kk_rwv (wf := wo_G_findAll cy a) hx hb hr hlocks h hQ hP hD hS dX6_findAll_41
      · have h := kk_f c_19 h
        refine lv_aload_n hx hb dX6_findAll_22 rfl (lv_at hl 0 rfl) ?_
        refine lv_iload_n hx hb dX6_findAll_23 rfl (lv_at hl 1 rfl) ?_
        obtain ⟨u_24, h_24, h⟩ := kk_b h
        refine kk_si (va_runV (As := [.int x1]) (rest := []) ⟨hx, hb, hml, hown, hts⟩ (c_G_isWonFrom l D cy a x1 v_isFound v_won u_24 h_24) (cwV 1 hts gX6_findAll_X6_isWonFrom rfl rfl rfl nv_G_isWonFrom ⟨Nat.le_of_ble_eq_true rfl, Nat.le_of_ble_eq_true rfl⟩) (kk_preRV hE (hP.sub [0, 1] rfl) (q0 := 0) (ci := 5) rfl rfl) rfl rfl hl.1 rfl (lv_room (Nat.le_of_ble_eq_true rfl)) dX6_findAll_24 ⟨Nat.zero_le _, Nat.zero_le _⟩) ?_
        refine lv_if_ne (tgt := 35) hx hb dX6_findAll_27 (by decide) (fun c_27 => ?_) (fun c_27 => ?_)
        · have h := kk_f c_27 h
          refine lv_iinc (v := x1 + 1) (lv' := [(1, .int (x1 + 1)), (0, .ref (a 0))]) hx hb dX6_findAll_35 hl (k := 1) rfl rfl (by decide) rfl (fun ls hl => ?_)
          refine lv_goto (tgt := 15) hx hb dX6_findAll_38 (by decide) ?_
          exact ih_15 (x1 + 1) v_won _ _ hP hD hS _ (lv_sub hl [1, 0] rfl) h
        · have h := kk_t c_27 h
          refine lv_aload_n hx hb dX6_findAll_30 rfl (lv_at hl 0 rfl) ?_
          refine lv_iload_n hx hb dX6_findAll_31 rfl (lv_at hl 1 rfl) ?_
          obtain ⟨u_32, h_32, h⟩ := kk_b h
          refine kk_wv (wn := [(a 0, .inr (5, [.ref (a 1), .int v_isFound])), (a 1, .inl (cy 1, 16, .inr (.inl u_32)))]) (va_runV (As := [.int x1]) (rest := []) ⟨hx, hb, hml, hown, hts⟩ (c_G_markAllAbove l D cy a _ x1 v_isFound v_won u_32 h_32) (cwV 1 hts gX6_findAll_X6_markAllAbove rfl rfl rfl nv_G_markAllAbove ⟨Nat.le_of_ble_eq_true rfl, Nat.le_of_ble_eq_true rfl⟩) (kk_preWV hE (hP.sub [0, 1] rfl) (hD.sub [0, 1] (by decide) rfl) (q0 := 0) (ci := 5) rfl rfl) rfl rfl hl.1 rfl (lv_room (Nat.le_of_ble_eq_true rfl)) dX6_findAll_32 ⟨Nat.zero_le _, Nat.zero_le _⟩) hP hD hS hA [0, 1] [] [0, 1] rfl rfl (by decide) (by decide) (by decide) rfl (fun H locs hP hD hS => ?_)
          refine lv_iinc (v := x1 + 1) (lv' := [(1, .int (x1 + 1)), (0, .ref (a 0))]) hx hb dX6_findAll_35 hl (k := 1) rfl rfl (by decide) rfl (fun ls hl => ?_)
          refine lv_goto (tgt := 15) hx hb dX6_findAll_38 (by decide) ?_
          exact ih_15 (x1 + 1) u_32 _ _ hP hD hS _ (lv_sub hl [1, 0] rfl) h
  refine lv_aload_n hx hb dX6_findAll_0 rfl (lv_at hl 0 rfl) ?_
  refine va_get (D := D) (ci := 5) (v := .int v_isFound) (C := RX6) (T := TX6) (N := 2) hx hb hts (fun _ h9 => List.mem_cons_of_mem _ (List.mem_append_right _ h9)) hown hE.1 hP 0 rfl rfl 1 (by decide) (hts (.fieldLink RX6 22 "PeaCups$SquareGame" "isFound" "Z") (List.mem_of_getElem? (i := 1) rfl)) (fun _ h9 => h9) rfl dX6_findAll_1 ?_
  refine lv_if_eq (tgt := 8) hx hb dX6_findAll_4 (by decide) (fun c_4 => ?_) (fun c_4 => ?_)
  · have h := kk_t c_4 h
    refine lv_aload_n hx hb dX6_findAll_8 rfl (lv_at hl 0 rfl) ?_
    refine lv_iconst (v := 1) hx hb dX6_findAll_9 (by decide) ?_
    refine va_put (D := D) (ci := 5) (v := .int 1) (ty := .boolean) (C := RX6) (T := TX6) (N := 2) hx hb hts (fun _ h9 => List.mem_cons_of_mem _ (List.mem_append_right _ h9)) tyX6 tyX6_ok nmX6 hown hE.1 hP hD hS 0 rfl rfl 1 (by decide) (hts (.fieldLink RX6 22 "PeaCups$SquareGame" "isFound" "Z") (List.mem_of_getElem? (i := 1) rfl)) (fun _ h9 => h9) rfl (by decide +kernel) rfl rfl (Nat.le_of_ble_eq_true rfl) dX6_findAll_10 (fun H locs hP hD hS => ?_)
    have hP : va_P D vwCl [(a 0, .inr (5, [.ref (a 1), .int 1])), (a 1, .inl (cy 1, 16, .inr (.inl v_won)))] H := hP
    have hD : va_D A [(a 0, .inr (5, [.ref (a 1), .int 1])), (a 1, .inl (cy 1, 16, .inr (.inl v_won)))] := hD
    refine lv_iconst (v := 0) hx hb dX6_findAll_13 (by decide) ?_
    refine lv_istore_n (lv' := [(1, .int 0), (0, .ref (a 0))]) hx hb dX6_findAll_14 rfl hl (by decide) rfl (fun ls hl => ?_)
    exact L_15 1 _ 0 v_won _ _ hP hD hS _ (lv_sub hl [1, 0] rfl) h
  · have h := kk_f c_4 h
    exact kk_rwv (wf := wo_G_findAll cy a) hx hb hr hlocks h hQ hP hD hS dX6_findAll_7
abbrev rm_G_leastWinningTake : Room := { frames := 3, cells := 0, slots := 0, locals := 66 }
theorem nv_G_leastWinningTake : yX6_leastWinningTake.cls = RX6 ∧ yX6_leastWinningTake.cls ≠ "java/lang/invoke/MethodHandle" ∧ yX6_leastWinningTake.cls ≠ "java/lang/invoke/VarHandle" ∧ (parseMethodDescriptor yX6_leastWinningTake.desc).map (fun d => d.parameters.length) = some 1 := by decide +kernel
abbrev wo_G_leastWinningTake (cy : Nat → Nat) (a : Nat → Nat) (u : Int32 × Int32 × (Nat → Int64)) : va_W := [(a 0, .inr (5, [.ref (a 1), .int u.2.1])), (a 1, .inl (cy 1, 16, .inr (.inl u.2.2)))]
set_option maxHeartbeats 4000000 in
set_option maxRecDepth 100000 in
theorem c_G_leastWinningTake (l : Launch) (D : va_G) (cy : Nat → Nat) (a : Nat → Nat) (sz : Nat) (p1 : Int32) (v_isFound : Int32) (v_won : (Nat → Int64)) (u : Int32 × Int32 × (Nat → Int64)) (h : f_G_leastWinningTake p1 v_isFound v_won = some u) : Met l yX6_leastWinningTake wsX6_leastWinningTake rm_G_leastWinningTake (kk_PW D cy [(a 0, .inr (5, [.ref (a 1), .int v_isFound])), (a 1, .inl (cy 1, 16, .inr (.inl v_won)))] sz [.ref (a 0), .int p1]) (kk_Qi D (wo_G_leastWinningTake cy a u) u.1 (va_A [(a 0, .inr (5, [.ref (a 1), .int v_isFound])), (a 1, .inl (cy 1, 16, .inr (.inl v_won)))] sz)) 0 0 (va_A [(a 0, .inr (5, [.ref (a 1), .int v_isFound])), (a 1, .inl (cy 1, 16, .inr (.inl v_won)))] sz) := by
  refine kk_met (cc := cX6_leastWinningTake) (maxL := 3) (ret := some .int) (by decide) rfl (Nat.le_of_ble_eq_true rfl) ?_
  intro p e s m below meth c hx hb hr hml hts hown hlocks hB ls hl Q hQ
  obtain ⟨hsz, hP, hE, hD0⟩ := hB
  subst hsz
  have hD := hD0.self (sz := s.heap.size)
  generalize hAe : va_A [(a 0, .inr (5, [.ref (a 1), .int v_isFound])), (a 1, .inl (cy 1, 16, .inr (.inl v_won)))] s.heap.size = A at hD hQ
  have hA : ∀ q : Nat, s.heap.size ≤ q → A q := fun q h => by rw [← hAe]; exact Or.inr h
  have hS : va_S A s.heap s.heap [] := va_S.rf
  have hown : s.vm.findClass RX6 = some m.cls := hown
  have hl : lv_has ls 3 [(0, .ref (a 0)), (1, .int p1)] := hl
  unfold f_G_leastWinningTake at h
  have L_6 : ∀ (x1 : Int32) (v_isFound : Int32) (v_won : (Nat → Int64)) (n_6 : Nat) (x2 : Int32) (H : Heap) (locs : List Loc) (hP : va_P D vwCl [(a 0, .inr (5, [.ref (a 1), .int v_isFound])), (a 1, .inl (cy 1, 16, .inr (.inl v_won)))] H) (hD : va_D A [(a 0, .inr (5, [.ref (a 1), .int v_isFound])), (a 1, .inl (cy 1, 16, .inr (.inl v_won)))]) (hS : va_S A s.heap H locs) (ls : Array Slot) (hl : lv_has ls 3 [(0, .ref (a 0)), (1, .int x1), (2, .int x2)]) (h : it1 (bd_G_leastWinningTake_6 x1 v_isFound v_won) n_6 x2 = some u), W p l e rm_G_leastWinningTake s m [.ref (a 0), .int p1].toArray below meth c H locs 0 0 Q (F0 m 6 ls []) := by
    intro x1 v_isFound v_won n_6
    induction n_6 with
    | zero => intro x2 H locs hP hD hS ls hl h; exact kk_no h
    | succ n_6 ih_6 =>
      intro x2 H locs hP hD hS ls hl h
      have h : bd_G_leastWinningTake_6 x1 v_isFound v_won (it1 (bd_G_leastWinningTake_6 x1 v_isFound v_won) n_6) x2 = some u := h
      unfold bd_G_leastWinningTake_6 at h
      refine lv_iload_n hx hb dX6_leastWinningTake_6 rfl (lv_at hl 2 rfl) ?_
      refine lv_bipush (v := 31) hx hb dX6_leastWinningTake_7 (by decide) ?_
      refine lv_icmp_gt (tgt := 41) hx hb dX6_leastWinningTake_9 (by decide) (fun c_9 => ?_) (fun c_9 => ?_)
      · have h := kk_t c_9 h
        refine lv_bipush (v := (-6)) hx hb dX6_leastWinningTake_41 (by decide) ?_
        exact kk_rwi (wf := wo_G_leastWinningTake cy a) (rf := fun u => u.1) hx hb hr hlocks h hQ rfl hP hD hS dX6_leastWinningTake_43
      · have h := kk_f c_9 h
        refine lv_iload_n hx hb dX6_leastWinningTake_12 rfl (lv_at hl 2 rfl) ?_
        refine lv_iload_n hx hb dX6_leastWinningTake_13 rfl (lv_at hl 2 rfl) ?_
        refine lv_imul hx hb dX6_leastWinningTake_14 ?_
        refine lv_iload_n hx hb dX6_leastWinningTake_15 rfl (lv_at hl 1 rfl) ?_
        refine lv_icmp_gt (tgt := 41) hx hb dX6_leastWinningTake_16 (by decide) (fun c_16 => ?_) (fun c_16 => ?_)
        · have h := kk_t c_16 h
          refine lv_bipush (v := (-6)) hx hb dX6_leastWinningTake_41 (by decide) ?_
          exact kk_rwi (wf := wo_G_leastWinningTake cy a) (rf := fun u => u.1) hx hb hr hlocks h hQ rfl hP hD hS dX6_leastWinningTake_43
        · have h := kk_f c_16 h
          refine lv_aload_n hx hb dX6_leastWinningTake_19 rfl (lv_at hl 0 rfl) ?_
          refine lv_iload_n hx hb dX6_leastWinningTake_20 rfl (lv_at hl 1 rfl) ?_
          refine lv_iload_n hx hb dX6_leastWinningTake_21 rfl (lv_at hl 2 rfl) ?_
          refine lv_iload_n hx hb dX6_leastWinningTake_22 rfl (lv_at hl 2 rfl) ?_
          refine lv_imul hx hb dX6_leastWinningTake_23 ?_
          refine lv_isub hx hb dX6_leastWinningTake_24 ?_
          obtain ⟨u_25, h_25, h⟩ := kk_b h
          refine kk_si (va_runV (As := [.int (x1 - (x2 * x2))]) (rest := []) ⟨hx, hb, hml, hown, hts⟩ (c_G_isWonFrom l D cy a (x1 - (x2 * x2)) v_isFound v_won u_25 h_25) (cwV 1 hts gX6_leastWinningTake_X6_isWonFrom rfl rfl rfl nv_G_isWonFrom ⟨Nat.le_of_ble_eq_true rfl, Nat.le_of_ble_eq_true rfl⟩) (kk_preRV hE (hP.sub [0, 1] rfl) (q0 := 0) (ci := 5) rfl rfl) rfl rfl hl.1 rfl (lv_room (Nat.le_of_ble_eq_true rfl)) dX6_leastWinningTake_25 ⟨Nat.zero_le _, Nat.zero_le _⟩) ?_
          refine lv_if_ne (tgt := 35) hx hb dX6_leastWinningTake_28 (by decide) (fun c_28 => ?_) (fun c_28 => ?_)
          · have h := kk_f c_28 h
            refine lv_iinc (v := x2 + 1) (lv' := [(2, .int (x2 + 1)), (0, .ref (a 0)), (1, .int x1)]) hx hb dX6_leastWinningTake_35 hl (k := 2) rfl rfl (by decide) rfl (fun ls hl => ?_)
            refine lv_goto (tgt := 6) hx hb dX6_leastWinningTake_38 (by decide) ?_
            exact ih_6 (x2 + 1) _ _ hP hD hS _ (lv_sub hl [1, 2, 0] rfl) h
          · have h := kk_t c_28 h
            refine lv_iload_n hx hb dX6_leastWinningTake_31 rfl (lv_at hl 2 rfl) ?_
            refine lv_iload_n hx hb dX6_leastWinningTake_32 rfl (lv_at hl 2 rfl) ?_
            refine lv_imul hx hb dX6_leastWinningTake_33 ?_
            exact kk_rwi (wf := wo_G_leastWinningTake cy a) (rf := fun u => u.1) hx hb hr hlocks h hQ rfl hP hD hS dX6_leastWinningTake_34
  refine lv_aload_n hx hb dX6_leastWinningTake_0 rfl (lv_at hl 0 rfl) ?_
  obtain ⟨u_1, h_1, h⟩ := kk_b h
  refine kk_wv (wn := [(a 0, .inr (5, [.ref (a 1), .int u_1.1])), (a 1, .inl (cy 1, 16, .inr (.inl u_1.2)))]) (va_runV (As := []) (rest := []) ⟨hx, hb, hml, hown, hts⟩ (c_G_findAll l D cy a _ v_isFound v_won u_1 h_1) (cwV 0 hts gX6_leastWinningTake_X6_findAll rfl rfl rfl nv_G_findAll ⟨Nat.le_of_ble_eq_true rfl, Nat.le_of_ble_eq_true rfl⟩) (kk_preWV hE (hP.sub [0, 1] rfl) (hD.sub [0, 1] (by decide) rfl) (q0 := 0) (ci := 5) rfl rfl) rfl rfl hl.1 rfl (lv_room (Nat.le_of_ble_eq_true rfl)) dX6_leastWinningTake_1 ⟨Nat.zero_le _, Nat.zero_le _⟩) hP hD hS hA [0, 1] [] [0, 1] rfl rfl (by decide) (by decide) (by decide) rfl (fun H locs hP hD hS => ?_)
  refine lv_iconst (v := 1) hx hb dX6_leastWinningTake_4 (by decide) ?_
  refine lv_istore_n (lv' := [(2, .int 1), (0, .ref (a 0)), (1, .int p1)]) hx hb dX6_leastWinningTake_5 rfl hl (by decide) rfl (fun ls hl => ?_)
  exact L_6 p1 u_1.1 u_1.2 _ 1 _ _ hP hD hS _ (lv_sub hl [1, 2, 0] rfl) h
abbrev rm_S_append : Room := { frames := 0, cells := 0, slots := 0, locals := 0 }
theorem nv_S_append : yX5_append.cls = RX5 ∧ yX5_append.cls ≠ "java/lang/invoke/MethodHandle" ∧ yX5_append.cls ≠ "java/lang/invoke/VarHandle" ∧ (parseMethodDescriptor yX5_append.desc).map (fun d => d.parameters.length) = some 3 := by decide +kernel
abbrev wo_S_append (cy : Nat → Nat) (a : Nat → Nat) (u : Int32 × Int32 × (Nat → Int32) × (Nat → Int32) × (Nat → Int32)) : va_W := [(a 0, .inr (4, [.ref (a 1), .ref (a 2), .ref (a 3), .int u.2.1])), (a 1, .inl (cy 0, 8, .inl u.2.2.1)), (a 2, .inl (cy 0, 8, .inl u.2.2.2.1)), (a 3, .inl (cy 0, 8, .inl u.2.2.2.2))]
set_option maxHeartbeats 4000000 in
set_option maxRecDepth 100000 in
theorem c_S_append (l : Launch) (D : va_G) (cy : Nat → Nat) (a : Nat → Nat) (sz : Nat) (p1 : Int32) (p2 : Int32) (p3 : Int32) (v_count : Int32) (v_ones : (Nat → Int32)) (v_others : (Nat → Int32)) (v_heavier : (Nat → Int32)) (u : Int32 × Int32 × (Nat → Int32) × (Nat → Int32) × (Nat → Int32)) (h : f_S_append p1 p2 p3 v_count v_ones v_others v_heavier = some u) : Met l yX5_append wsX5_append rm_S_append (kk_PW D cy [(a 0, .inr (4, [.ref (a 1), .ref (a 2), .ref (a 3), .int v_count])), (a 1, .inl (cy 0, 8, .inl v_ones)), (a 2, .inl (cy 0, 8, .inl v_others)), (a 3, .inl (cy 0, 8, .inl v_heavier))] sz [.ref (a 0), .int p1, .int p2, .int p3]) (kk_Qi D (wo_S_append cy a u) u.1 (va_A [(a 0, .inr (4, [.ref (a 1), .ref (a 2), .ref (a 3), .int v_count])), (a 1, .inl (cy 0, 8, .inl v_ones)), (a 2, .inl (cy 0, 8, .inl v_others)), (a 3, .inl (cy 0, 8, .inl v_heavier))] sz)) 0 0 (va_A [(a 0, .inr (4, [.ref (a 1), .ref (a 2), .ref (a 3), .int v_count])), (a 1, .inl (cy 0, 8, .inl v_ones)), (a 2, .inl (cy 0, 8, .inl v_others)), (a 3, .inl (cy 0, 8, .inl v_heavier))] sz) := by
  refine kk_met (cc := cX5_append) (maxL := 4) (ret := some .boolean) (by decide) rfl (Nat.le_of_ble_eq_true rfl) ?_
  intro p e s m below meth c hx hb hr hml hts hown hlocks hB ls hl Q hQ
  obtain ⟨hsz, hP, hE, hD0⟩ := hB
  subst hsz
  have hD := hD0.self (sz := s.heap.size)
  generalize hAe : va_A [(a 0, .inr (4, [.ref (a 1), .ref (a 2), .ref (a 3), .int v_count])), (a 1, .inl (cy 0, 8, .inl v_ones)), (a 2, .inl (cy 0, 8, .inl v_others)), (a 3, .inl (cy 0, 8, .inl v_heavier))] s.heap.size = A at hD hQ
  have hA : ∀ q : Nat, s.heap.size ≤ q → A q := fun q h => by rw [← hAe]; exact Or.inr h
  have hS : va_S A s.heap s.heap [] := va_S.rf
  have hown : s.vm.findClass RX5 = some m.cls := hown
  have hl : lv_has ls 4 [(0, .ref (a 0)), (1, .int p1), (2, .int p2), (3, .int p3)] := hl
  unfold f_S_append at h
  refine lv_aload_n hx hb dX5_append_0 rfl (lv_at hl 0 rfl) ?_
  refine va_get (D := D) (ci := 4) (v := .int v_count) (C := RX5) (T := TX5) (N := 4) hx hb hts (fun _ h9 => List.mem_cons_of_mem _ (List.mem_append_right _ h9)) hown hE.1 hP 0 rfl rfl 3 (by decide) (hts (.fieldLink RX5 31 "PeaCups$Sights" "count" "I") (List.mem_of_getElem? (i := 1) rfl)) (fun _ h9 => h9) rfl dX5_append_1 ?_
  refine lv_bipush (v := 8) hx hb dX5_append_4 (by decide) ?_
  refine lv_icmp_lt (tgt := 11) hx hb dX5_append_6 (by decide) (fun c_6 => ?_) (fun c_6 => ?_)
  · have h := kk_t c_6 h
    refine lv_aload_n hx hb dX5_append_11 rfl (lv_at hl 0 rfl) ?_
    refine va_get (D := D) (ci := 4) (v := .ref (a 1)) (C := RX5) (T := TX5) (N := 4) hx hb hts (fun _ h9 => List.mem_cons_of_mem _ (List.mem_append_right _ h9)) hown hE.1 hP 0 rfl rfl 0 (by decide) (hts (.fieldLink RX5 11 "PeaCups$Sights" "ones" "[I") (List.mem_of_getElem? (i := 2) rfl)) (fun _ h9 => h9) rfl dX5_append_12 ?_
    refine lv_aload_n hx hb dX5_append_15 rfl (lv_at hl 0 rfl) ?_
    refine va_get (D := D) (ci := 4) (v := .int v_count) (C := RX5) (T := TX5) (N := 4) hx hb hts (fun _ h9 => List.mem_cons_of_mem _ (List.mem_append_right _ h9)) hown hE.1 hP 0 rfl rfl 3 (by decide) (hts (.fieldLink RX5 31 "PeaCups$Sights" "count" "I") (List.mem_of_getElem? (i := 1) rfl)) (fun _ h9 => h9) rfl dX5_append_16 ?_
    refine lv_iload_n hx hb dX5_append_19 rfl (lv_at hl 1 rfl) ?_
    obtain ⟨i_20, h⟩ := kk_x h
    refine va_iast hx hb hE.1 hP hD hS 1 0 rfl rfl i_20 dX5_append_20 (fun H locs hP hD hS => ?_)
    have hP : va_P D vwCl [(a 0, .inr (4, [.ref (a 1), .ref (a 2), .ref (a 3), .int v_count])), (a 1, .inl (cy 0, 8, .inl (upd v_ones (v_count : Int32).toNatClampNeg p1))), (a 2, .inl (cy 0, 8, .inl v_others)), (a 3, .inl (cy 0, 8, .inl v_heavier))] H := hP
    have hD : va_D A [(a 0, .inr (4, [.ref (a 1), .ref (a 2), .ref (a 3), .int v_count])), (a 1, .inl (cy 0, 8, .inl (upd v_ones (v_count : Int32).toNatClampNeg p1))), (a 2, .inl (cy 0, 8, .inl v_others)), (a 3, .inl (cy 0, 8, .inl v_heavier))] := hD
    refine lv_aload_n hx hb dX5_append_21 rfl (lv_at hl 0 rfl) ?_
    refine va_get (D := D) (ci := 4) (v := .ref (a 2)) (C := RX5) (T := TX5) (N := 4) hx hb hts (fun _ h9 => List.mem_cons_of_mem _ (List.mem_append_right _ h9)) hown hE.1 hP 0 rfl rfl 1 (by decide) (hts (.fieldLink RX5 15 "PeaCups$Sights" "others" "[I") (List.mem_of_getElem? (i := 3) rfl)) (fun _ h9 => h9) rfl dX5_append_22 ?_
    refine lv_aload_n hx hb dX5_append_25 rfl (lv_at hl 0 rfl) ?_
    refine va_get (D := D) (ci := 4) (v := .int v_count) (C := RX5) (T := TX5) (N := 4) hx hb hts (fun _ h9 => List.mem_cons_of_mem _ (List.mem_append_right _ h9)) hown hE.1 hP 0 rfl rfl 3 (by decide) (hts (.fieldLink RX5 31 "PeaCups$Sights" "count" "I") (List.mem_of_getElem? (i := 1) rfl)) (fun _ h9 => h9) rfl dX5_append_26 ?_
    refine lv_iload_n hx hb dX5_append_29 rfl (lv_at hl 2 rfl) ?_
    obtain ⟨i_30, h⟩ := kk_x h
    refine va_iast hx hb hE.1 hP hD hS 2 0 rfl rfl i_30 dX5_append_30 (fun H locs hP hD hS => ?_)
    have hP : va_P D vwCl [(a 0, .inr (4, [.ref (a 1), .ref (a 2), .ref (a 3), .int v_count])), (a 1, .inl (cy 0, 8, .inl (upd v_ones (v_count : Int32).toNatClampNeg p1))), (a 2, .inl (cy 0, 8, .inl (upd v_others (v_count : Int32).toNatClampNeg p2))), (a 3, .inl (cy 0, 8, .inl v_heavier))] H := hP
    have hD : va_D A [(a 0, .inr (4, [.ref (a 1), .ref (a 2), .ref (a 3), .int v_count])), (a 1, .inl (cy 0, 8, .inl (upd v_ones (v_count : Int32).toNatClampNeg p1))), (a 2, .inl (cy 0, 8, .inl (upd v_others (v_count : Int32).toNatClampNeg p2))), (a 3, .inl (cy 0, 8, .inl v_heavier))] := hD
    refine lv_aload_n hx hb dX5_append_31 rfl (lv_at hl 0 rfl) ?_
    refine va_get (D := D) (ci := 4) (v := .ref (a 3)) (C := RX5) (T := TX5) (N := 4) hx hb hts (fun _ h9 => List.mem_cons_of_mem _ (List.mem_append_right _ h9)) hown hE.1 hP 0 rfl rfl 2 (by decide) (hts (.fieldLink RX5 18 "PeaCups$Sights" "heavier" "[I") (List.mem_of_getElem? (i := 4) rfl)) (fun _ h9 => h9) rfl dX5_append_32 ?_
    refine lv_aload_n hx hb dX5_append_35 rfl (lv_at hl 0 rfl) ?_
    refine va_get (D := D) (ci := 4) (v := .int v_count) (C := RX5) (T := TX5) (N := 4) hx hb hts (fun _ h9 => List.mem_cons_of_mem _ (List.mem_append_right _ h9)) hown hE.1 hP 0 rfl rfl 3 (by decide) (hts (.fieldLink RX5 31 "PeaCups$Sights" "count" "I") (List.mem_of_getElem? (i := 1) rfl)) (fun _ h9 => h9) rfl dX5_append_36 ?_
    refine lv_iload_n hx hb dX5_append_39 rfl (lv_at hl 3 rfl) ?_
    obtain ⟨i_40, h⟩ := kk_x h
    refine va_iast hx hb hE.1 hP hD hS 3 0 rfl rfl i_40 dX5_append_40 (fun H locs hP hD hS => ?_)
    have hP : va_P D vwCl [(a 0, .inr (4, [.ref (a 1), .ref (a 2), .ref (a 3), .int v_count])), (a 1, .inl (cy 0, 8, .inl (upd v_ones (v_count : Int32).toNatClampNeg p1))), (a 2, .inl (cy 0, 8, .inl (upd v_others (v_count : Int32).toNatClampNeg p2))), (a 3, .inl (cy 0, 8, .inl (upd v_heavier (v_count : Int32).toNatClampNeg p3)))] H := hP
    have hD : va_D A [(a 0, .inr (4, [.ref (a 1), .ref (a 2), .ref (a 3), .int v_count])), (a 1, .inl (cy 0, 8, .inl (upd v_ones (v_count : Int32).toNatClampNeg p1))), (a 2, .inl (cy 0, 8, .inl (upd v_others (v_count : Int32).toNatClampNeg p2))), (a 3, .inl (cy 0, 8, .inl (upd v_heavier (v_count : Int32).toNatClampNeg p3)))] := hD
    refine lv_aload_n hx hb dX5_append_41 rfl (lv_at hl 0 rfl) ?_
    refine lv_dup hx hb dX5_append_42 rfl ?_
    refine va_get (D := D) (ci := 4) (v := .int v_count) (C := RX5) (T := TX5) (N := 4) hx hb hts (fun _ h9 => List.mem_cons_of_mem _ (List.mem_append_right _ h9)) hown hE.1 hP 0 rfl rfl 3 (by decide) (hts (.fieldLink RX5 31 "PeaCups$Sights" "count" "I") (List.mem_of_getElem? (i := 1) rfl)) (fun _ h9 => h9) rfl dX5_append_43 ?_
    refine lv_iconst (v := 1) hx hb dX5_append_46 (by decide) ?_
    refine lv_iadd hx hb dX5_append_47 ?_
    refine va_put (D := D) (ci := 4) (v := .int (v_count + 1)) (ty := .int) (C := RX5) (T := TX5) (N := 4) hx hb hts (fun _ h9 => List.mem_cons_of_mem _ (List.mem_append_right _ h9)) tyX5 tyX5_ok nmX5 hown hE.1 hP hD hS 0 rfl rfl 3 (by decide) (hts (.fieldLink RX5 31 "PeaCups$Sights" "count" "I") (List.mem_of_getElem? (i := 1) rfl)) (fun _ h9 => h9) rfl (by decide +kernel) rfl rfl (Nat.le_of_ble_eq_true rfl) dX5_append_48 (fun H locs hP hD hS => ?_)
    have hP : va_P D vwCl [(a 0, .inr (4, [.ref (a 1), .ref (a 2), .ref (a 3), .int (v_count + 1)])), (a 1, .inl (cy 0, 8, .inl (upd v_ones (v_count : Int32).toNatClampNeg p1))), (a 2, .inl (cy 0, 8, .inl (upd v_others (v_count : Int32).toNatClampNeg p2))), (a 3, .inl (cy 0, 8, .inl (upd v_heavier (v_count : Int32).toNatClampNeg p3)))] H := hP
    have hD : va_D A [(a 0, .inr (4, [.ref (a 1), .ref (a 2), .ref (a 3), .int (v_count + 1)])), (a 1, .inl (cy 0, 8, .inl (upd v_ones (v_count : Int32).toNatClampNeg p1))), (a 2, .inl (cy 0, 8, .inl (upd v_others (v_count : Int32).toNatClampNeg p2))), (a 3, .inl (cy 0, 8, .inl (upd v_heavier (v_count : Int32).toNatClampNeg p3)))] := hD
    refine lv_iconst (v := 1) hx hb dX5_append_51 (by decide) ?_
    exact kk_rwz (wf := wo_S_append cy a) (rf := fun u => u.1) hx hb hr hlocks h hQ rfl rfl hP hD hS dX5_append_52
  · have h := kk_f c_6 h
    refine lv_iconst (v := 0) hx hb dX5_append_9 (by decide) ?_
    exact kk_rwz (wf := wo_S_append cy a) (rf := fun u => u.1) hx hb hr hlocks h hQ rfl rfl hP hD hS dX5_append_10
