abbrev rm_T_copyFrom : Room := { frames := 0, cells := 0, slots := 0, locals := 0 }
theorem nv_T_copyFrom : yX7_copyFrom.cls = RX7 ∧ yX7_copyFrom.cls ≠ "java/lang/invoke/MethodHandle" ∧ yX7_copyFrom.cls ≠ "java/lang/invoke/VarHandle" ∧ (parseMethodDescriptor yX7_copyFrom.desc).map (fun d => d.parameters.length) = some 1 := by decide +kernel
abbrev wo_T_copyFrom (cy : Nat → Nat) (a : Nat → Nat) (b : Nat → Nat) (o_order : Int32) (o_peaCup : Int32) (o_round : Int32) (o_eyes : (Nat → Int32)) (o_coins : (Nat → Int32)) (o_thoughts : (Nat → Int32)) (u : Int32 × Int32 × Int32 × (Nat → Int32) × (Nat → Int32) × (Nat → Int32)) : va_W := [(a 0, .inr (6, [.int u.1, .int u.2.1, .int u.2.2.1, .ref (a 1), .ref (a 2), .ref (a 3)])), (a 1, .inl (cy 0, 4, .inl u.2.2.2.1)), (a 2, .inl (cy 0, 4, .inl u.2.2.2.2.1)), (a 3, .inl (cy 0, 4, .inl u.2.2.2.2.2)), (b 0, .inr (6, [.int o_order, .int o_peaCup, .int o_round, .ref (b 1), .ref (b 2), .ref (b 3)])), (b 1, .inl (cy 0, 4, .inl o_eyes)), (b 2, .inl (cy 0, 4, .inl o_coins)), (b 3, .inl (cy 0, 4, .inl o_thoughts))]
set_option maxHeartbeats 4000000 in
set_option maxRecDepth 100000 in
theorem c_T_copyFrom (l : Launch) (D : va_G) (cy : Nat → Nat) (a b : Nat → Nat) (sz : Nat) (v_order : Int32) (v_peaCup : Int32) (v_round : Int32) (v_eyes : (Nat → Int32)) (v_coins : (Nat → Int32)) (v_thoughts : (Nat → Int32)) (o_order : Int32) (o_peaCup : Int32) (o_round : Int32) (o_eyes : (Nat → Int32)) (o_coins : (Nat → Int32)) (o_thoughts : (Nat → Int32)) (u : Int32 × Int32 × Int32 × (Nat → Int32) × (Nat → Int32) × (Nat → Int32)) (h : f_T_copyFrom v_order v_peaCup v_round v_eyes v_coins v_thoughts o_order o_peaCup o_round o_eyes o_coins o_thoughts = some u) : Met l yX7_copyFrom wsX7_copyFrom rm_T_copyFrom (kk_PW D cy [(a 0, .inr (6, [.int v_order, .int v_peaCup, .int v_round, .ref (a 1), .ref (a 2), .ref (a 3)])), (a 1, .inl (cy 0, 4, .inl v_eyes)), (a 2, .inl (cy 0, 4, .inl v_coins)), (a 3, .inl (cy 0, 4, .inl v_thoughts)), (b 0, .inr (6, [.int o_order, .int o_peaCup, .int o_round, .ref (b 1), .ref (b 2), .ref (b 3)])), (b 1, .inl (cy 0, 4, .inl o_eyes)), (b 2, .inl (cy 0, 4, .inl o_coins)), (b 3, .inl (cy 0, 4, .inl o_thoughts))] sz [.ref (a 0), .ref (b 0)]) (kk_Qv D (wo_T_copyFrom cy a b o_order o_peaCup o_round o_eyes o_coins o_thoughts u) (va_A [(a 0, .inr (6, [.int v_order, .int v_peaCup, .int v_round, .ref (a 1), .ref (a 2), .ref (a 3)])), (a 1, .inl (cy 0, 4, .inl v_eyes)), (a 2, .inl (cy 0, 4, .inl v_coins)), (a 3, .inl (cy 0, 4, .inl v_thoughts)), (b 0, .inr (6, [.int o_order, .int o_peaCup, .int o_round, .ref (b 1), .ref (b 2), .ref (b 3)])), (b 1, .inl (cy 0, 4, .inl o_eyes)), (b 2, .inl (cy 0, 4, .inl o_coins)), (b 3, .inl (cy 0, 4, .inl o_thoughts))] sz)) 0 0 (va_A [(a 0, .inr (6, [.int v_order, .int v_peaCup, .int v_round, .ref (a 1), .ref (a 2), .ref (a 3)])), (a 1, .inl (cy 0, 4, .inl v_eyes)), (a 2, .inl (cy 0, 4, .inl v_coins)), (a 3, .inl (cy 0, 4, .inl v_thoughts)), (b 0, .inr (6, [.int o_order, .int o_peaCup, .int o_round, .ref (b 1), .ref (b 2), .ref (b 3)])), (b 1, .inl (cy 0, 4, .inl o_eyes)), (b 2, .inl (cy 0, 4, .inl o_coins)), (b 3, .inl (cy 0, 4, .inl o_thoughts))] sz) := by
  refine kk_met (cc := cX7_copyFrom) (maxL := 3) (ret := none) (by decide) rfl (Nat.le_of_ble_eq_true rfl) ?_
  intro p e s m below meth c hx hb hr hml hts hown hlocks hB ls hl Q hQ
  obtain ⟨hsz, hP, hE, hD0⟩ := hB
  subst hsz
  have hD := hD0.self (sz := s.heap.size)
  generalize hAe : va_A [(a 0, .inr (6, [.int v_order, .int v_peaCup, .int v_round, .ref (a 1), .ref (a 2), .ref (a 3)])), (a 1, .inl (cy 0, 4, .inl v_eyes)), (a 2, .inl (cy 0, 4, .inl v_coins)), (a 3, .inl (cy 0, 4, .inl v_thoughts)), (b 0, .inr (6, [.int o_order, .int o_peaCup, .int o_round, .ref (b 1), .ref (b 2), .ref (b 3)])), (b 1, .inl (cy 0, 4, .inl o_eyes)), (b 2, .inl (cy 0, 4, .inl o_coins)), (b 3, .inl (cy 0, 4, .inl o_thoughts))] s.heap.size = A at hD hQ
  have hA : ∀ q : Nat, s.heap.size ≤ q → A q := fun q h => by rw [← hAe]; exact Or.inr h
  have hS : va_S A s.heap s.heap [] := va_S.rf
  have hown : s.vm.findClass RX7 = some m.cls := hown
  have hl : lv_has ls 3 [(0, .ref (a 0)), (1, .ref (b 0))] := hl
  unfold f_T_copyFrom at h
  have L_26 : ∀ (v_order : Int32) (v_peaCup : Int32) (v_round : Int32) (n_26 : Nat) (x2 : Int32) (v_eyes : (Nat → Int32)) (v_coins : (Nat → Int32)) (v_thoughts : (Nat → Int32)) (H : Heap) (locs : List Loc) (hP : va_P D vwCl [(a 0, .inr (6, [.int v_order, .int v_peaCup, .int v_round, .ref (a 1), .ref (a 2), .ref (a 3)])), (a 1, .inl (cy 0, 4, .inl v_eyes)), (a 2, .inl (cy 0, 4, .inl v_coins)), (a 3, .inl (cy 0, 4, .inl v_thoughts)), (b 0, .inr (6, [.int o_order, .int o_peaCup, .int o_round, .ref (b 1), .ref (b 2), .ref (b 3)])), (b 1, .inl (cy 0, 4, .inl o_eyes)), (b 2, .inl (cy 0, 4, .inl o_coins)), (b 3, .inl (cy 0, 4, .inl o_thoughts))] H) (hD : va_D A [(a 0, .inr (6, [.int v_order, .int v_peaCup, .int v_round, .ref (a 1), .ref (a 2), .ref (a 3)])), (a 1, .inl (cy 0, 4, .inl v_eyes)), (a 2, .inl (cy 0, 4, .inl v_coins)), (a 3, .inl (cy 0, 4, .inl v_thoughts)), (b 0, .inr (6, [.int o_order, .int o_peaCup, .int o_round, .ref (b 1), .ref (b 2), .ref (b 3)])), (b 1, .inl (cy 0, 4, .inl o_eyes)), (b 2, .inl (cy 0, 4, .inl o_coins)), (b 3, .inl (cy 0, 4, .inl o_thoughts))]) (hS : va_S A s.heap H locs) (ls : Array Slot) (hl : lv_has ls 3 [(0, .ref (a 0)), (1, .ref (b 0)), (2, .int x2)]) (h : it4 (bd_T_copyFrom_26 v_order v_peaCup v_round o_order o_peaCup o_round o_eyes o_coins o_thoughts) n_26 x2 v_eyes v_coins v_thoughts = some u), W p l e rm_T_copyFrom s m [.ref (a 0), .ref (b 0)].toArray below meth c H locs 0 0 Q (F0 m 26 ls []) := by
    intro v_order v_peaCup v_round n_26
    induction n_26 with
    | zero => intro x2 v_eyes v_coins v_thoughts H locs hP hD hS ls hl h; exact kk_no h
    | succ n_26 ih_26 =>
      intro x2 v_eyes v_coins v_thoughts H locs hP hD hS ls hl h
      have h : bd_T_copyFrom_26 v_order v_peaCup v_round o_order o_peaCup o_round o_eyes o_coins o_thoughts (it4 (bd_T_copyFrom_26 v_order v_peaCup v_round o_order o_peaCup o_round o_eyes o_coins o_thoughts) n_26) x2 v_eyes v_coins v_thoughts = some u := h
      unfold bd_T_copyFrom_26 at h
      refine lv_iload_n hx hb dX7_copyFrom_26 rfl (lv_at hl 2 rfl) ?_
      refine lv_iconst (v := 4) hx hb dX7_copyFrom_27 (by decide) ?_
      refine lv_icmp_ge (tgt := 73) hx hb dX7_copyFrom_28 (by decide) (fun c_28 => ?_) (fun c_28 => ?_)
      · have h := kk_t c_28 h
        exact kk_rwv (wf := wo_T_copyFrom cy a b o_order o_peaCup o_round o_eyes o_coins o_thoughts) hx hb hr hlocks h hQ hP hD hS dX7_copyFrom_73
      · have h := kk_f c_28 h
        refine lv_aload_n hx hb dX7_copyFrom_31 rfl (lv_at hl 0 rfl) ?_
        refine va_get (D := D) (ci := 6) (v := .ref (a 1)) (C := RX7) (T := TX7) (N := 6) hx hb hts (fun _ h9 => List.mem_cons_of_mem _ (List.mem_append_right _ h9)) hown hE.1 hP 0 rfl rfl 3 (by decide) (hts (.fieldLink RX7 24 "PeaCups$Table" "eyes" "[I") (List.mem_of_getElem? (i := 4) rfl)) (fun _ h9 => h9) rfl dX7_copyFrom_32 ?_
        refine lv_iload_n hx hb dX7_copyFrom_35 rfl (lv_at hl 2 rfl) ?_
        refine lv_aload_n hx hb dX7_copyFrom_36 rfl (lv_at hl 1 rfl) ?_
        refine va_get (D := D) (ci := 6) (v := .ref (b 1)) (C := RX7) (T := TX7) (N := 6) hx hb hts (fun _ h9 => List.mem_cons_of_mem _ (List.mem_append_right _ h9)) hown hE.1 hP 4 rfl rfl 3 (by decide) (hts (.fieldLink RX7 24 "PeaCups$Table" "eyes" "[I") (List.mem_of_getElem? (i := 4) rfl)) (fun _ h9 => h9) rfl dX7_copyFrom_37 ?_
        refine lv_iload_n hx hb dX7_copyFrom_40 rfl (lv_at hl 2 rfl) ?_
        obtain ⟨i_41, h⟩ := kk_x h
        refine va_iald hx hb hE.1 hP 5 0 rfl rfl i_41 dX7_copyFrom_41 ?_
        obtain ⟨i_42, h⟩ := kk_x h
        refine va_iast hx hb hE.1 hP hD hS 1 0 rfl rfl i_42 dX7_copyFrom_42 (fun H locs hP hD hS => ?_)
        have hP : va_P D vwCl [(a 0, .inr (6, [.int v_order, .int v_peaCup, .int v_round, .ref (a 1), .ref (a 2), .ref (a 3)])), (a 1, .inl (cy 0, 4, .inl (upd v_eyes (x2 : Int32).toNatClampNeg (o_eyes (x2 : Int32).toNatClampNeg)))), (a 2, .inl (cy 0, 4, .inl v_coins)), (a 3, .inl (cy 0, 4, .inl v_thoughts)), (b 0, .inr (6, [.int o_order, .int o_peaCup, .int o_round, .ref (b 1), .ref (b 2), .ref (b 3)])), (b 1, .inl (cy 0, 4, .inl o_eyes)), (b 2, .inl (cy 0, 4, .inl o_coins)), (b 3, .inl (cy 0, 4, .inl o_thoughts))] H := hP
        have hD : va_D A [(a 0, .inr (6, [.int v_order, .int v_peaCup, .int v_round, .ref (a 1), .ref (a 2), .ref (a 3)])), (a 1, .inl (cy 0, 4, .inl (upd v_eyes (x2 : Int32).toNatClampNeg (o_eyes (x2 : Int32).toNatClampNeg)))), (a 2, .inl (cy 0, 4, .inl v_coins)), (a 3, .inl (cy 0, 4, .inl v_thoughts)), (b 0, .inr (6, [.int o_order, .int o_peaCup, .int o_round, .ref (b 1), .ref (b 2), .ref (b 3)])), (b 1, .inl (cy 0, 4, .inl o_eyes)), (b 2, .inl (cy 0, 4, .inl o_coins)), (b 3, .inl (cy 0, 4, .inl o_thoughts))] := hD
        refine lv_aload_n hx hb dX7_copyFrom_43 rfl (lv_at hl 0 rfl) ?_
        refine va_get (D := D) (ci := 6) (v := .ref (a 2)) (C := RX7) (T := TX7) (N := 6) hx hb hts (fun _ h9 => List.mem_cons_of_mem _ (List.mem_append_right _ h9)) hown hE.1 hP 0 rfl rfl 4 (by decide) (hts (.fieldLink RX7 28 "PeaCups$Table" "coins" "[I") (List.mem_of_getElem? (i := 5) rfl)) (fun _ h9 => h9) rfl dX7_copyFrom_44 ?_
        refine lv_iload_n hx hb dX7_copyFrom_47 rfl (lv_at hl 2 rfl) ?_
        refine lv_aload_n hx hb dX7_copyFrom_48 rfl (lv_at hl 1 rfl) ?_
        refine va_get (D := D) (ci := 6) (v := .ref (b 2)) (C := RX7) (T := TX7) (N := 6) hx hb hts (fun _ h9 => List.mem_cons_of_mem _ (List.mem_append_right _ h9)) hown hE.1 hP 4 rfl rfl 4 (by decide) (hts (.fieldLink RX7 28 "PeaCups$Table" "coins" "[I") (List.mem_of_getElem? (i := 5) rfl)) (fun _ h9 => h9) rfl dX7_copyFrom_49 ?_
        refine lv_iload_n hx hb dX7_copyFrom_52 rfl (lv_at hl 2 rfl) ?_
        obtain ⟨i_53, h⟩ := kk_x h
        refine va_iald hx hb hE.1 hP 6 0 rfl rfl i_53 dX7_copyFrom_53 ?_
        obtain ⟨i_54, h⟩ := kk_x h
        refine va_iast hx hb hE.1 hP hD hS 2 0 rfl rfl i_54 dX7_copyFrom_54 (fun H locs hP hD hS => ?_)
        have hP : va_P D vwCl [(a 0, .inr (6, [.int v_order, .int v_peaCup, .int v_round, .ref (a 1), .ref (a 2), .ref (a 3)])), (a 1, .inl (cy 0, 4, .inl (upd v_eyes (x2 : Int32).toNatClampNeg (o_eyes (x2 : Int32).toNatClampNeg)))), (a 2, .inl (cy 0, 4, .inl (upd v_coins (x2 : Int32).toNatClampNeg (o_coins (x2 : Int32).toNatClampNeg)))), (a 3, .inl (cy 0, 4, .inl v_thoughts)), (b 0, .inr (6, [.int o_order, .int o_peaCup, .int o_round, .ref (b 1), .ref (b 2), .ref (b 3)])), (b 1, .inl (cy 0, 4, .inl o_eyes)), (b 2, .inl (cy 0, 4, .inl o_coins)), (b 3, .inl (cy 0, 4, .inl o_thoughts))] H := hP
        have hD : va_D A [(a 0, .inr (6, [.int v_order, .int v_peaCup, .int v_round, .ref (a 1), .ref (a 2), .ref (a 3)])), (a 1, .inl (cy 0, 4, .inl (upd v_eyes (x2 : Int32).toNatClampNeg (o_eyes (x2 : Int32).toNatClampNeg)))), (a 2, .inl (cy 0, 4, .inl (upd v_coins (x2 : Int32).toNatClampNeg (o_coins (x2 : Int32).toNatClampNeg)))), (a 3, .inl (cy 0, 4, .inl v_thoughts)), (b 0, .inr (6, [.int o_order, .int o_peaCup, .int o_round, .ref (b 1), .ref (b 2), .ref (b 3)])), (b 1, .inl (cy 0, 4, .inl o_eyes)), (b 2, .inl (cy 0, 4, .inl o_coins)), (b 3, .inl (cy 0, 4, .inl o_thoughts))] := hD
        refine lv_aload_n hx hb dX7_copyFrom_55 rfl (lv_at hl 0 rfl) ?_
        refine va_get (D := D) (ci := 6) (v := .ref (a 3)) (C := RX7) (T := TX7) (N := 6) hx hb hts (fun _ h9 => List.mem_cons_of_mem _ (List.mem_append_right _ h9)) hown hE.1 hP 0 rfl rfl 5 (by decide) (hts (.fieldLink RX7 31 "PeaCups$Table" "thoughts" "[I") (List.mem_of_getElem? (i := 6) rfl)) (fun _ h9 => h9) rfl dX7_copyFrom_56 ?_
        refine lv_iload_n hx hb dX7_copyFrom_59 rfl (lv_at hl 2 rfl) ?_
        refine lv_aload_n hx hb dX7_copyFrom_60 rfl (lv_at hl 1 rfl) ?_
        refine va_get (D := D) (ci := 6) (v := .ref (b 3)) (C := RX7) (T := TX7) (N := 6) hx hb hts (fun _ h9 => List.mem_cons_of_mem _ (List.mem_append_right _ h9)) hown hE.1 hP 4 rfl rfl 5 (by decide) (hts (.fieldLink RX7 31 "PeaCups$Table" "thoughts" "[I") (List.mem_of_getElem? (i := 6) rfl)) (fun _ h9 => h9) rfl dX7_copyFrom_61 ?_
        refine lv_iload_n hx hb dX7_copyFrom_64 rfl (lv_at hl 2 rfl) ?_
        obtain ⟨i_65, h⟩ := kk_x h
        refine va_iald hx hb hE.1 hP 7 0 rfl rfl i_65 dX7_copyFrom_65 ?_
        obtain ⟨i_66, h⟩ := kk_x h
        refine va_iast hx hb hE.1 hP hD hS 3 0 rfl rfl i_66 dX7_copyFrom_66 (fun H locs hP hD hS => ?_)
        have hP : va_P D vwCl [(a 0, .inr (6, [.int v_order, .int v_peaCup, .int v_round, .ref (a 1), .ref (a 2), .ref (a 3)])), (a 1, .inl (cy 0, 4, .inl (upd v_eyes (x2 : Int32).toNatClampNeg (o_eyes (x2 : Int32).toNatClampNeg)))), (a 2, .inl (cy 0, 4, .inl (upd v_coins (x2 : Int32).toNatClampNeg (o_coins (x2 : Int32).toNatClampNeg)))), (a 3, .inl (cy 0, 4, .inl (upd v_thoughts (x2 : Int32).toNatClampNeg (o_thoughts (x2 : Int32).toNatClampNeg)))), (b 0, .inr (6, [.int o_order, .int o_peaCup, .int o_round, .ref (b 1), .ref (b 2), .ref (b 3)])), (b 1, .inl (cy 0, 4, .inl o_eyes)), (b 2, .inl (cy 0, 4, .inl o_coins)), (b 3, .inl (cy 0, 4, .inl o_thoughts))] H := hP
        have hD : va_D A [(a 0, .inr (6, [.int v_order, .int v_peaCup, .int v_round, .ref (a 1), .ref (a 2), .ref (a 3)])), (a 1, .inl (cy 0, 4, .inl (upd v_eyes (x2 : Int32).toNatClampNeg (o_eyes (x2 : Int32).toNatClampNeg)))), (a 2, .inl (cy 0, 4, .inl (upd v_coins (x2 : Int32).toNatClampNeg (o_coins (x2 : Int32).toNatClampNeg)))), (a 3, .inl (cy 0, 4, .inl (upd v_thoughts (x2 : Int32).toNatClampNeg (o_thoughts (x2 : Int32).toNatClampNeg)))), (b 0, .inr (6, [.int o_order, .int o_peaCup, .int o_round, .ref (b 1), .ref (b 2), .ref (b 3)])), (b 1, .inl (cy 0, 4, .inl o_eyes)), (b 2, .inl (cy 0, 4, .inl o_coins)), (b 3, .inl (cy 0, 4, .inl o_thoughts))] := hD
        refine lv_iinc (v := x2 + 1) (lv' := [(2, .int (x2 + 1)), (0, .ref (a 0)), (1, .ref (b 0))]) hx hb dX7_copyFrom_67 hl (k := 2) rfl rfl (by decide) rfl (fun ls hl => ?_)
        refine lv_goto (tgt := 26) hx hb dX7_copyFrom_70 (by decide) ?_
        exact ih_26 (x2 + 1) (upd v_eyes (x2 : Int32).toNatClampNeg (o_eyes (x2 : Int32).toNatClampNeg)) (upd v_coins (x2 : Int32).toNatClampNeg (o_coins (x2 : Int32).toNatClampNeg)) (upd v_thoughts (x2 : Int32).toNatClampNeg (o_thoughts (x2 : Int32).toNatClampNeg)) _ _ hP hD hS _ (lv_sub hl [1, 2, 0] rfl) h
  refine lv_aload_n hx hb dX7_copyFrom_0 rfl (lv_at hl 0 rfl) ?_
  refine lv_aload_n hx hb dX7_copyFrom_1 rfl (lv_at hl 1 rfl) ?_
  refine va_get (D := D) (ci := 6) (v := .int o_order) (C := RX7) (T := TX7) (N := 6) hx hb hts (fun _ h9 => List.mem_cons_of_mem _ (List.mem_append_right _ h9)) hown hE.1 hP 4 rfl rfl 0 (by decide) (hts (.fieldLink RX7 12 "PeaCups$Table" "order" "I") (List.mem_of_getElem? (i := 1) rfl)) (fun _ h9 => h9) rfl dX7_copyFrom_2 ?_
  refine va_put (D := D) (ci := 6) (v := .int o_order) (ty := .int) (C := RX7) (T := TX7) (N := 6) hx hb hts (fun _ h9 => List.mem_cons_of_mem _ (List.mem_append_right _ h9)) tyX7 tyX7_ok nmX7 hown hE.1 hP hD hS 0 rfl rfl 0 (by decide) (hts (.fieldLink RX7 12 "PeaCups$Table" "order" "I") (List.mem_of_getElem? (i := 1) rfl)) (fun _ h9 => h9) rfl (by decide +kernel) rfl rfl (Nat.le_of_ble_eq_true rfl) dX7_copyFrom_5 (fun H locs hP hD hS => ?_)
  have hP : va_P D vwCl [(a 0, .inr (6, [.int o_order, .int v_peaCup, .int v_round, .ref (a 1), .ref (a 2), .ref (a 3)])), (a 1, .inl (cy 0, 4, .inl v_eyes)), (a 2, .inl (cy 0, 4, .inl v_coins)), (a 3, .inl (cy 0, 4, .inl v_thoughts)), (b 0, .inr (6, [.int o_order, .int o_peaCup, .int o_round, .ref (b 1), .ref (b 2), .ref (b 3)])), (b 1, .inl (cy 0, 4, .inl o_eyes)), (b 2, .inl (cy 0, 4, .inl o_coins)), (b 3, .inl (cy 0, 4, .inl o_thoughts))] H := hP
  have hD : va_D A [(a 0, .inr (6, [.int o_order, .int v_peaCup, .int v_round, .ref (a 1), .ref (a 2), .ref (a 3)])), (a 1, .inl (cy 0, 4, .inl v_eyes)), (a 2, .inl (cy 0, 4, .inl v_coins)), (a 3, .inl (cy 0, 4, .inl v_thoughts)), (b 0, .inr (6, [.int o_order, .int o_peaCup, .int o_round, .ref (b 1), .ref (b 2), .ref (b 3)])), (b 1, .inl (cy 0, 4, .inl o_eyes)), (b 2, .inl (cy 0, 4, .inl o_coins)), (b 3, .inl (cy 0, 4, .inl o_thoughts))] := hD
  refine lv_aload_n hx hb dX7_copyFrom_8 rfl (lv_at hl 0 rfl) ?_
  refine lv_aload_n hx hb dX7_copyFrom_9 rfl (lv_at hl 1 rfl) ?_
  refine va_get (D := D) (ci := 6) (v := .int o_peaCup) (C := RX7) (T := TX7) (N := 6) hx hb hts (fun _ h9 => List.mem_cons_of_mem _ (List.mem_append_right _ h9)) hown hE.1 hP 4 rfl rfl 1 (by decide) (hts (.fieldLink RX7 18 "PeaCups$Table" "peaCup" "I") (List.mem_of_getElem? (i := 2) rfl)) (fun _ h9 => h9) rfl dX7_copyFrom_10 ?_
  refine va_put (D := D) (ci := 6) (v := .int o_peaCup) (ty := .int) (C := RX7) (T := TX7) (N := 6) hx hb hts (fun _ h9 => List.mem_cons_of_mem _ (List.mem_append_right _ h9)) tyX7 tyX7_ok nmX7 hown hE.1 hP hD hS 0 rfl rfl 1 (by decide) (hts (.fieldLink RX7 18 "PeaCups$Table" "peaCup" "I") (List.mem_of_getElem? (i := 2) rfl)) (fun _ h9 => h9) rfl (by decide +kernel) rfl rfl (Nat.le_of_ble_eq_true rfl) dX7_copyFrom_13 (fun H locs hP hD hS => ?_)
  have hP : va_P D vwCl [(a 0, .inr (6, [.int o_order, .int o_peaCup, .int v_round, .ref (a 1), .ref (a 2), .ref (a 3)])), (a 1, .inl (cy 0, 4, .inl v_eyes)), (a 2, .inl (cy 0, 4, .inl v_coins)), (a 3, .inl (cy 0, 4, .inl v_thoughts)), (b 0, .inr (6, [.int o_order, .int o_peaCup, .int o_round, .ref (b 1), .ref (b 2), .ref (b 3)])), (b 1, .inl (cy 0, 4, .inl o_eyes)), (b 2, .inl (cy 0, 4, .inl o_coins)), (b 3, .inl (cy 0, 4, .inl o_thoughts))] H := hP
  have hD : va_D A [(a 0, .inr (6, [.int o_order, .int o_peaCup, .int v_round, .ref (a 1), .ref (a 2), .ref (a 3)])), (a 1, .inl (cy 0, 4, .inl v_eyes)), (a 2, .inl (cy 0, 4, .inl v_coins)), (a 3, .inl (cy 0, 4, .inl v_thoughts)), (b 0, .inr (6, [.int o_order, .int o_peaCup, .int o_round, .ref (b 1), .ref (b 2), .ref (b 3)])), (b 1, .inl (cy 0, 4, .inl o_eyes)), (b 2, .inl (cy 0, 4, .inl o_coins)), (b 3, .inl (cy 0, 4, .inl o_thoughts))] := hD
  refine lv_aload_n hx hb dX7_copyFrom_16 rfl (lv_at hl 0 rfl) ?_
  refine lv_aload_n hx hb dX7_copyFrom_17 rfl (lv_at hl 1 rfl) ?_
  refine va_get (D := D) (ci := 6) (v := .int o_round) (C := RX7) (T := TX7) (N := 6) hx hb hts (fun _ h9 => List.mem_cons_of_mem _ (List.mem_append_right _ h9)) hown hE.1 hP 4 rfl rfl 2 (by decide) (hts (.fieldLink RX7 21 "PeaCups$Table" "round" "I") (List.mem_of_getElem? (i := 3) rfl)) (fun _ h9 => h9) rfl dX7_copyFrom_18 ?_
  refine va_put (D := D) (ci := 6) (v := .int o_round) (ty := .int) (C := RX7) (T := TX7) (N := 6) hx hb hts (fun _ h9 => List.mem_cons_of_mem _ (List.mem_append_right _ h9)) tyX7 tyX7_ok nmX7 hown hE.1 hP hD hS 0 rfl rfl 2 (by decide) (hts (.fieldLink RX7 21 "PeaCups$Table" "round" "I") (List.mem_of_getElem? (i := 3) rfl)) (fun _ h9 => h9) rfl (by decide +kernel) rfl rfl (Nat.le_of_ble_eq_true rfl) dX7_copyFrom_21 (fun H locs hP hD hS => ?_)
  have hP : va_P D vwCl [(a 0, .inr (6, [.int o_order, .int o_peaCup, .int o_round, .ref (a 1), .ref (a 2), .ref (a 3)])), (a 1, .inl (cy 0, 4, .inl v_eyes)), (a 2, .inl (cy 0, 4, .inl v_coins)), (a 3, .inl (cy 0, 4, .inl v_thoughts)), (b 0, .inr (6, [.int o_order, .int o_peaCup, .int o_round, .ref (b 1), .ref (b 2), .ref (b 3)])), (b 1, .inl (cy 0, 4, .inl o_eyes)), (b 2, .inl (cy 0, 4, .inl o_coins)), (b 3, .inl (cy 0, 4, .inl o_thoughts))] H := hP
  have hD : va_D A [(a 0, .inr (6, [.int o_order, .int o_peaCup, .int o_round, .ref (a 1), .ref (a 2), .ref (a 3)])), (a 1, .inl (cy 0, 4, .inl v_eyes)), (a 2, .inl (cy 0, 4, .inl v_coins)), (a 3, .inl (cy 0, 4, .inl v_thoughts)), (b 0, .inr (6, [.int o_order, .int o_peaCup, .int o_round, .ref (b 1), .ref (b 2), .ref (b 3)])), (b 1, .inl (cy 0, 4, .inl o_eyes)), (b 2, .inl (cy 0, 4, .inl o_coins)), (b 3, .inl (cy 0, 4, .inl o_thoughts))] := hD
  refine lv_iconst (v := 0) hx hb dX7_copyFrom_24 (by decide) ?_
  refine lv_istore_n (lv' := [(2, .int 0), (0, .ref (a 0)), (1, .ref (b 0))]) hx hb dX7_copyFrom_25 rfl hl (by decide) rfl (fun ls hl => ?_)
  exact L_26 o_order o_peaCup o_round _ 0 v_eyes v_coins v_thoughts _ _ hP hD hS _ (lv_sub hl [1, 2, 0] rfl) h
abbrev rm_T_peaPlace : Room := { frames := 1, cells := 0, slots := 0, locals := 22 }
theorem nv_T_peaPlace : yX7_peaPlace.cls = RX7 ∧ yX7_peaPlace.cls ≠ "java/lang/invoke/MethodHandle" ∧ yX7_peaPlace.cls ≠ "java/lang/invoke/VarHandle" ∧ (parseMethodDescriptor yX7_peaPlace.desc).map (fun d => d.parameters.length) = some 0 := by decide +kernel
set_option maxHeartbeats 4000000 in
set_option maxRecDepth 100000 in
theorem c_T_peaPlace (l : Launch) (D : va_G) (cy : Nat → Nat) (a : Nat → Nat) (v_order : Int32) (v_peaCup : Int32) (v_round : Int32) (v_eyes : (Nat → Int32)) (v_coins : (Nat → Int32)) (v_thoughts : (Nat → Int32)) (u : Int32) (h : f_T_peaPlace v_order v_peaCup = some u) : Met l yX7_peaPlace wsX7_peaPlace rm_T_peaPlace (kk_PR D cy [(a 0, .inr (6, [.int v_order, .int v_peaCup, .int v_round, .ref (a 1), .ref (a 2), .ref (a 3)])), (a 1, .inl (cy 0, 4, .inl v_eyes)), (a 2, .inl (cy 0, 4, .inl v_coins)), (a 3, .inl (cy 0, 4, .inl v_thoughts))] [.ref (a 0)]) (vp_Si (fun r => r = u)) 0 0 (fun _ => False) := by
  refine kk_met (cc := cX7_peaPlace) (maxL := 1) (ret := some .int) (by decide) rfl (Nat.le_of_ble_eq_true rfl) ?_
  intro p e s m below meth c hx hb hr hml hts hown hlocks hB ls hl Q hQ
  obtain ⟨hP, hE⟩ := hB
  have hown : s.vm.findClass RX7 = some m.cls := hown
  have hl : lv_has ls 1 [(0, .ref (a 0))] := hl
  unfold f_T_peaPlace at h
  refine lv_aload_n hx hb dX7_peaPlace_0 rfl (lv_at hl 0 rfl) ?_
  refine va_get (D := D) (ci := 6) (v := .int v_peaCup) (C := RX7) (T := TX7) (N := 6) hx hb hts (fun _ h9 => List.mem_cons_of_mem _ (List.mem_append_right _ h9)) hown hE.1 hP 0 rfl rfl 1 (by decide) (hts (.fieldLink RX7 18 "PeaCups$Table" "peaCup" "I") (List.mem_of_getElem? (i := 1) rfl)) (fun _ h9 => h9) rfl dX7_peaPlace_1 ?_
  refine lv_iconst (v := (-1)) hx hb dX7_peaPlace_4 (by decide) ?_
  refine lv_icmp_ne (tgt := 13) hx hb dX7_peaPlace_5 (by decide) (fun c_5 => ?_) (fun c_5 => ?_)
  · have h := kk_f c_5 h
    refine lv_aload_n hx hb dX7_peaPlace_13 rfl (lv_at hl 0 rfl) ?_
    refine va_get (D := D) (ci := 6) (v := .int v_order) (C := RX7) (T := TX7) (N := 6) hx hb hts (fun _ h9 => List.mem_cons_of_mem _ (List.mem_append_right _ h9)) hown hE.1 hP 0 rfl rfl 0 (by decide) (hts (.fieldLink RX7 12 "PeaCups$Table" "order" "I") (List.mem_of_getElem? (i := 2) rfl)) (fun _ h9 => h9) rfl dX7_peaPlace_14 ?_
    refine lv_aload_n hx hb dX7_peaPlace_17 rfl (lv_at hl 0 rfl) ?_
    refine va_get (D := D) (ci := 6) (v := .int v_peaCup) (C := RX7) (T := TX7) (N := 6) hx hb hts (fun _ h9 => List.mem_cons_of_mem _ (List.mem_append_right _ h9)) hown hE.1 hP 0 rfl rfl 1 (by decide) (hts (.fieldLink RX7 18 "PeaCups$Table" "peaCup" "I") (List.mem_of_getElem? (i := 1) rfl)) (fun _ h9 => h9) rfl dX7_peaPlace_18 ?_
    obtain ⟨u_21, h_21, h⟩ := kk_b h
    refine kk_si (va_runS (As := [.int v_order, .int v_peaCup]) (rest := []) ⟨hx, hb, hml, hown, hts⟩ (c_O_placeOf l v_order v_peaCup u_21 h_21) (va_cwS 2 hts gX7_peaPlace_X2_placeOf rfl rfl rfl nd_O_placeOf ⟨Nat.le_of_ble_eq_true rfl, Nat.le_of_ble_eq_true rfl⟩) (kk_preS hE.2) rfl rfl hl.1 rfl (lv_room (Nat.le_of_ble_eq_true rfl)) dX7_peaPlace_21 ⟨Nat.zero_le _, Nat.zero_le _⟩) ?_
    exact kk_ri hx hb hr hlocks hQ h dX7_peaPlace_24
  · have h := kk_t c_5 h
    refine lv_bipush (v := (-6)) hx hb dX7_peaPlace_8 (by decide) ?_
    refine lv_goto (tgt := 24) hx hb dX7_peaPlace_10 (by decide) ?_
    exact kk_ri hx hb hr hlocks hQ h dX7_peaPlace_24
abbrev rm_T_coinOf : Room := { frames := 1, cells := 0, slots := 0, locals := 20 }
theorem nv_T_coinOf : yX7_coinOf.cls = RX7 ∧ yX7_coinOf.cls ≠ "java/lang/invoke/MethodHandle" ∧ yX7_coinOf.cls ≠ "java/lang/invoke/VarHandle" ∧ (parseMethodDescriptor yX7_coinOf.desc).map (fun d => d.parameters.length) = some 1 := by decide +kernel
set_option maxHeartbeats 4000000 in
set_option maxRecDepth 100000 in
theorem c_T_coinOf (l : Launch) (D : va_G) (cy : Nat → Nat) (a : Nat → Nat) (p1 : Int32) (v_order : Int32) (v_peaCup : Int32) (v_round : Int32) (v_eyes : (Nat → Int32)) (v_coins : (Nat → Int32)) (v_thoughts : (Nat → Int32)) (u : Int32) (h : f_T_coinOf p1 v_coins = some u) : Met l yX7_coinOf wsX7_coinOf rm_T_coinOf (kk_PR D cy [(a 0, .inr (6, [.int v_order, .int v_peaCup, .int v_round, .ref (a 1), .ref (a 2), .ref (a 3)])), (a 1, .inl (cy 0, 4, .inl v_eyes)), (a 2, .inl (cy 0, 4, .inl v_coins)), (a 3, .inl (cy 0, 4, .inl v_thoughts))] [.ref (a 0), .int p1]) (vp_Si (fun r => r = u)) 0 0 (fun _ => False) := by
  refine kk_met (cc := cX7_coinOf) (maxL := 2) (ret := some .int) (by decide) rfl (Nat.le_of_ble_eq_true rfl) ?_
  intro p e s m below meth c hx hb hr hml hts hown hlocks hB ls hl Q hQ
  obtain ⟨hP, hE⟩ := hB
  have hown : s.vm.findClass RX7 = some m.cls := hown
  have hl : lv_has ls 2 [(0, .ref (a 0)), (1, .int p1)] := hl
  unfold f_T_coinOf at h
  refine lv_iload_n hx hb dX7_coinOf_0 rfl (lv_at hl 1 rfl) ?_
  obtain ⟨u_1, h_1, h⟩ := kk_b h
  refine kk_si (va_runSN (As := [.int p1]) (rest := []) ⟨hx, hb, hml, hown, hts⟩ (c_C_isWatcher l p1 u_1 h_1) ⟨va_cnB 1 hts ggX7_coinOf_X9_isWatcher rfl rfl rfl (hE.2 _ (List.mem_of_getElem? (i := 12) rfl)) (hts (.initialized RX9) (List.mem_of_getElem? (i := 3) rfl)) nd_C_isWatcher ⟨Nat.le_of_ble_eq_true rfl, Nat.le_of_ble_eq_true rfl⟩, (hts (.static yX9_isWatcher) (List.mem_of_getElem? (i := 2) rfl)), trivial⟩ (kk_preS hE.2) rfl rfl hl.1 rfl (lv_room (Nat.le_of_ble_eq_true rfl)) dX7_coinOf_1 ⟨Nat.zero_le _, Nat.zero_le _⟩) ?_
  refine lv_if_eq (tgt := 16) hx hb dX7_coinOf_4 (by decide) (fun c_4 => ?_) (fun c_4 => ?_)
  · have h := kk_t c_4 h
    refine lv_iconst (v := 0) hx hb dX7_coinOf_16 (by decide) ?_
    exact kk_ri hx hb hr hlocks hQ h dX7_coinOf_17
  · have h := kk_f c_4 h
    refine lv_aload_n hx hb dX7_coinOf_7 rfl (lv_at hl 0 rfl) ?_
    refine va_get (D := D) (ci := 6) (v := .ref (a 2)) (C := RX7) (T := TX7) (N := 6) hx hb hts (fun _ h9 => List.mem_cons_of_mem _ (List.mem_append_right _ h9)) hown hE.1 hP 0 rfl rfl 4 (by decide) (hts (.fieldLink RX7 28 "PeaCups$Table" "coins" "[I") (List.mem_of_getElem? (i := 1) rfl)) (fun _ h9 => h9) rfl dX7_coinOf_8 ?_
    refine lv_iload_n hx hb dX7_coinOf_11 rfl (lv_at hl 1 rfl) ?_
    obtain ⟨i_12, h⟩ := kk_x h
    refine va_iald hx hb hE.1 hP 2 0 rfl rfl i_12 dX7_coinOf_12 ?_
    refine lv_goto (tgt := 17) hx hb dX7_coinOf_13 (by decide) ?_
    exact kk_ri hx hb hr hlocks hQ h dX7_coinOf_17
abbrev rm_T_whyNot : Room := { frames := 2, cells := 0, slots := 0, locals := 42 }
theorem nv_T_whyNot : yX7_whyNot.cls = RX7 ∧ yX7_whyNot.cls ≠ "java/lang/invoke/MethodHandle" ∧ yX7_whyNot.cls ≠ "java/lang/invoke/VarHandle" ∧ (parseMethodDescriptor yX7_whyNot.desc).map (fun d => d.parameters.length) = some 1 := by decide +kernel
set_option maxHeartbeats 4000000 in
set_option maxRecDepth 100000 in
theorem c_T_whyNot (l : Launch) (D : va_G) (cy : Nat → Nat) (a b : Nat → Nat) (v_order : Int32) (v_peaCup : Int32) (v_round : Int32) (v_eyes : (Nat → Int32)) (v_coins : (Nat → Int32)) (v_thoughts : (Nat → Int32)) (o_kind : Int32) (o_place : Int32) (o_otherPlace : Int32) (o_watcher : Int32) (o_number : Int32) (u : Int32) (h : f_T_whyNot v_order v_peaCup v_round v_coins o_kind o_place o_otherPlace o_watcher o_number = some u) : Met l yX7_whyNot wsX7_whyNot rm_T_whyNot (kk_PR D cy [(a 0, .inr (6, [.int v_order, .int v_peaCup, .int v_round, .ref (a 1), .ref (a 2), .ref (a 3)])), (a 1, .inl (cy 0, 4, .inl v_eyes)), (a 2, .inl (cy 0, 4, .inl v_coins)), (a 3, .inl (cy 0, 4, .inl v_thoughts)), (b 0, .inr (0, [.int o_kind, .int o_place, .int o_otherPlace, .int o_watcher, .int o_number]))] [.ref (a 0), .ref (b 0)]) (vp_Si (fun r => r = u)) 0 0 (fun _ => False) := by
  refine kk_met (cc := cX7_whyNot) (maxL := 2) (ret := some .int) (by decide) rfl (Nat.le_of_ble_eq_true rfl) ?_
  intro p e s m below meth c hx hb hr hml hts hown hlocks hB ls hl Q hQ
  obtain ⟨hP, hE⟩ := hB
  have hown : s.vm.findClass RX7 = some m.cls := hown
  have hl : lv_has ls 2 [(0, .ref (a 0)), (1, .ref (b 0))] := hl
  unfold f_T_whyNot at h
  refine lv_aload_n hx hb dX7_whyNot_0 rfl (lv_at hl 1 rfl) ?_
  refine va_get (D := D) (ci := 0) (v := .int o_kind) (C := RX0) (T := TX0) (N := 5) hx hb hts (fun _ h9 => List.mem_cons_of_mem _ (List.mem_append_left _ (List.mem_append_right _ h9))) hown hE.1 hP 4 rfl rfl 0 (by decide) (hts (.fieldLink RX7 46 "PeaCups$Act" "kind" "I") (List.mem_of_getElem? (i := 1) rfl)) (fun _ h9 => h9) rfl dX7_whyNot_1 ?_
  by_cases c_4_0 : o_kind = 0
  · have h := kk_t c_4_0 h
    refine lv_tableIn (off := 36) (tgt := 40) hx hb dX7_whyNot_4 (by rw [c_4_0]; decide) (by rw [c_4_0]; decide) (by rw [c_4_0]; decide) (by decide) ?_
    refine lv_aload_n hx hb dX7_whyNot_40 rfl (lv_at hl 1 rfl) ?_
    refine va_get (D := D) (ci := 0) (v := .int o_place) (C := RX0) (T := TX0) (N := 5) hx hb hts (fun _ h9 => List.mem_cons_of_mem _ (List.mem_append_left _ (List.mem_append_right _ h9))) hown hE.1 hP 4 rfl rfl 1 (by decide) (hts (.fieldLink RX7 51 "PeaCups$Act" "place" "I") (List.mem_of_getElem? (i := 2) rfl)) (fun _ h9 => h9) rfl dX7_whyNot_41 ?_
    refine lv_aload_n hx hb dX7_whyNot_44 rfl (lv_at hl 1 rfl) ?_
    refine va_get (D := D) (ci := 0) (v := .int o_otherPlace) (C := RX0) (T := TX0) (N := 5) hx hb hts (fun _ h9 => List.mem_cons_of_mem _ (List.mem_append_left _ (List.mem_append_right _ h9))) hown hE.1 hP 4 rfl rfl 2 (by decide) (hts (.fieldLink RX7 54 "PeaCups$Act" "otherPlace" "I") (List.mem_of_getElem? (i := 3) rfl)) (fun _ h9 => h9) rfl dX7_whyNot_45 ?_
    refine lv_icmp_ne (tgt := 55) hx hb dX7_whyNot_48 (by decide) (fun c_48 => ?_) (fun c_48 => ?_)
    · have h := kk_f c_48 h
      refine lv_iconst (v := 0) hx hb dX7_whyNot_55 (by decide) ?_
      exact kk_ri hx hb hr hlocks hQ h dX7_whyNot_56
    · have h := kk_t c_48 h
      refine lv_iconst (v := 1) hx hb dX7_whyNot_51 (by decide) ?_
      refine lv_goto (tgt := 56) hx hb dX7_whyNot_52 (by decide) ?_
      exact kk_ri hx hb hr hlocks hQ h dX7_whyNot_56
  · have h := kk_f c_4_0 h
    by_cases c_4_1 : o_kind = 1
    · have h := kk_t c_4_1 h
      refine lv_tableIn (off := 114) (tgt := 118) hx hb dX7_whyNot_4 (by rw [c_4_1]; decide) (by rw [c_4_1]; decide) (by rw [c_4_1]; decide) (by decide) ?_
      refine lv_iconst (v := 0) hx hb dX7_whyNot_118 (by decide) ?_
      exact kk_ri hx hb hr hlocks hQ h dX7_whyNot_119
    · have h := kk_f c_4_1 h
      by_cases c_4_2 : o_kind = 2
      · have h := kk_t c_4_2 h
        refine lv_tableIn (off := 53) (tgt := 57) hx hb dX7_whyNot_4 (by rw [c_4_2]; decide) (by rw [c_4_2]; decide) (by rw [c_4_2]; decide) (by decide) ?_
        refine lv_aload_n hx hb dX7_whyNot_57 rfl (lv_at hl 0 rfl) ?_
        refine va_get (D := D) (ci := 6) (v := .int v_peaCup) (C := RX7) (T := TX7) (N := 6) hx hb hts (fun _ h9 => List.mem_cons_of_mem _ (List.mem_append_right _ h9)) hown hE.1 hP 0 rfl rfl 1 (by decide) (hts (.fieldLink RX7 18 "PeaCups$Table" "peaCup" "I") (List.mem_of_getElem? (i := 4) rfl)) (fun _ h9 => h9) rfl dX7_whyNot_58 ?_
        refine lv_iconst (v := (-1)) hx hb dX7_whyNot_61 (by decide) ?_
        refine lv_icmp_eq (tgt := 80) hx hb dX7_whyNot_62 (by decide) (fun c_62 => ?_) (fun c_62 => ?_)
        · have h := kk_t c_62 h
          refine lv_iconst (v := 0) hx hb dX7_whyNot_80 (by decide) ?_
          exact kk_ri hx hb hr hlocks hQ h dX7_whyNot_81
        · have h := kk_f c_62 h
          refine lv_aload_n hx hb dX7_whyNot_65 rfl (lv_at hl 0 rfl) ?_
          obtain ⟨u_66, h_66, h⟩ := kk_b h
          refine kk_si (va_runV (As := []) (rest := []) ⟨hx, hb, hml, hown, hts⟩ (c_T_peaPlace l D cy a v_order v_peaCup v_round v_eyes v_coins v_thoughts u_66 h_66) (cwV 0 hts gX7_whyNot_X7_peaPlace rfl rfl rfl nv_T_peaPlace ⟨Nat.le_of_ble_eq_true rfl, Nat.le_of_ble_eq_true rfl⟩) (kk_preRV hE (hP.sub [0, 1, 2, 3] rfl) (q0 := 0) (ci := 6) rfl rfl) rfl rfl hl.1 rfl (lv_room (Nat.le_of_ble_eq_true rfl)) dX7_whyNot_66 ⟨Nat.zero_le _, Nat.zero_le _⟩) ?_
          refine lv_aload_n hx hb dX7_whyNot_69 rfl (lv_at hl 1 rfl) ?_
          refine va_get (D := D) (ci := 0) (v := .int o_place) (C := RX0) (T := TX0) (N := 5) hx hb hts (fun _ h9 => List.mem_cons_of_mem _ (List.mem_append_left _ (List.mem_append_right _ h9))) hown hE.1 hP 4 rfl rfl 1 (by decide) (hts (.fieldLink RX7 51 "PeaCups$Act" "place" "I") (List.mem_of_getElem? (i := 2) rfl)) (fun _ h9 => h9) rfl dX7_whyNot_70 ?_
          refine lv_icmp_eq (tgt := 80) hx hb dX7_whyNot_73 (by decide) (fun c_73 => ?_) (fun c_73 => ?_)
          · have h := kk_t c_73 h
            refine lv_iconst (v := 0) hx hb dX7_whyNot_80 (by decide) ?_
            exact kk_ri hx hb hr hlocks hQ h dX7_whyNot_81
          · have h := kk_f c_73 h
            refine lv_iconst (v := 2) hx hb dX7_whyNot_76 (by decide) ?_
            refine lv_goto (tgt := 81) hx hb dX7_whyNot_77 (by decide) ?_
            exact kk_ri hx hb hr hlocks hQ h dX7_whyNot_81
      · have h := kk_f c_4_2 h
        by_cases c_4_3 : o_kind = 3
        · have h := kk_t c_4_3 h
          refine lv_tableIn (off := 78) (tgt := 82) hx hb dX7_whyNot_4 (by rw [c_4_3]; decide) (by rw [c_4_3]; decide) (by rw [c_4_3]; decide) (by decide) ?_
          refine lv_aload_n hx hb dX7_whyNot_82 rfl (lv_at hl 0 rfl) ?_
          refine lv_aload_n hx hb dX7_whyNot_83 rfl (lv_at hl 1 rfl) ?_
          refine va_get (D := D) (ci := 0) (v := .int o_watcher) (C := RX0) (T := TX0) (N := 5) hx hb hts (fun _ h9 => List.mem_cons_of_mem _ (List.mem_append_left _ (List.mem_append_right _ h9))) hown hE.1 hP 4 rfl rfl 3 (by decide) (hts (.fieldLink RX7 57 "PeaCups$Act" "watcher" "I") (List.mem_of_getElem? (i := 5) rfl)) (fun _ h9 => h9) rfl dX7_whyNot_84 ?_
          obtain ⟨u_87, h_87, h⟩ := kk_b h
          refine kk_si (va_runV (As := [.int o_watcher]) (rest := []) ⟨hx, hb, hml, hown, hts⟩ (c_T_coinOf l D cy a o_watcher v_order v_peaCup v_round v_eyes v_coins v_thoughts u_87 h_87) (cwV 1 hts gX7_whyNot_X7_coinOf rfl rfl rfl nv_T_coinOf ⟨Nat.le_of_ble_eq_true rfl, Nat.le_of_ble_eq_true rfl⟩) (kk_preRV hE (hP.sub [0, 1, 2, 3] rfl) (q0 := 0) (ci := 6) rfl rfl) rfl rfl hl.1 rfl (lv_room (Nat.le_of_ble_eq_true rfl)) dX7_whyNot_87 ⟨Nat.zero_le _, Nat.zero_le _⟩) ?_
          refine lv_aload_n hx hb dX7_whyNot_90 rfl (lv_at hl 1 rfl) ?_
          refine va_get (D := D) (ci := 0) (v := .int o_number) (C := RX0) (T := TX0) (N := 5) hx hb hts (fun _ h9 => List.mem_cons_of_mem _ (List.mem_append_left _ (List.mem_append_right _ h9))) hown hE.1 hP 4 rfl rfl 4 (by decide) (hts (.fieldLink RX7 64 "PeaCups$Act" "number" "I") (List.mem_of_getElem? (i := 6) rfl)) (fun _ h9 => h9) rfl dX7_whyNot_91 ?_
          refine lv_icmp_ge (tgt := 101) hx hb dX7_whyNot_94 (by decide) (fun c_94 => ?_) (fun c_94 => ?_)
          · have h := kk_t c_94 h
            refine lv_iconst (v := 0) hx hb dX7_whyNot_101 (by decide) ?_
            exact kk_ri hx hb hr hlocks hQ h dX7_whyNot_102
          · have h := kk_f c_94 h
            refine lv_iconst (v := 3) hx hb dX7_whyNot_97 (by decide) ?_
            refine lv_goto (tgt := 102) hx hb dX7_whyNot_98 (by decide) ?_
            exact kk_ri hx hb hr hlocks hQ h dX7_whyNot_102
        · have h := kk_f c_4_3 h
          by_cases c_4_4 : o_kind = 4
          · have h := kk_t c_4_4 h
            refine lv_tableIn (off := 99) (tgt := 103) hx hb dX7_whyNot_4 (by rw [c_4_4]; decide) (by rw [c_4_4]; decide) (by rw [c_4_4]; decide) (by decide) ?_
            refine lv_aload_n hx hb dX7_whyNot_103 rfl (lv_at hl 0 rfl) ?_
            refine va_get (D := D) (ci := 6) (v := .int v_round) (C := RX7) (T := TX7) (N := 6) hx hb hts (fun _ h9 => List.mem_cons_of_mem _ (List.mem_append_right _ h9)) hown hE.1 hP 0 rfl rfl 2 (by decide) (hts (.fieldLink RX7 21 "PeaCups$Table" "round" "I") (List.mem_of_getElem? (i := 7) rfl)) (fun _ h9 => h9) rfl dX7_whyNot_104 ?_
            refine lv_bipush (v := 99) hx hb dX7_whyNot_107 (by decide) ?_
            refine lv_icmp_lt (tgt := 116) hx hb dX7_whyNot_109 (by decide) (fun c_109 => ?_) (fun c_109 => ?_)
            · have h := kk_t c_109 h
              refine lv_iconst (v := 0) hx hb dX7_whyNot_116 (by decide) ?_
              exact kk_ri hx hb hr hlocks hQ h dX7_whyNot_117
            · have h := kk_f c_109 h
              refine lv_iconst (v := 4) hx hb dX7_whyNot_112 (by decide) ?_
              refine lv_goto (tgt := 117) hx hb dX7_whyNot_113 (by decide) ?_
              exact kk_ri hx hb hr hlocks hQ h dX7_whyNot_117
          · have h := kk_f c_4_4 h
            refine lv_tableOut (tgt := 118) hx hb dX7_whyNot_4 (by have := lv_neT (a := 0) c_4_0 (by decide); have := lv_neT (a := 1) c_4_1 (by decide); have := lv_neT (a := 2) c_4_2 (by decide); have := lv_neT (a := 3) c_4_3 (by decide); have := lv_neT (a := 4) c_4_4 (by decide); omega) (by decide) ?_
            refine lv_iconst (v := 0) hx hb dX7_whyNot_118 (by decide) ?_
            exact kk_ri hx hb hr hlocks hQ h dX7_whyNot_119
abbrev rm_T_isWon : Room := { frames := 2, cells := 0, slots := 0, locals := 42 }
theorem nv_T_isWon : yX7_isWon.cls = RX7 ∧ yX7_isWon.cls ≠ "java/lang/invoke/MethodHandle" ∧ yX7_isWon.cls ≠ "java/lang/invoke/VarHandle" ∧ (parseMethodDescriptor yX7_isWon.desc).map (fun d => d.parameters.length) = some 1 := by decide +kernel
set_option maxHeartbeats 4000000 in
set_option maxRecDepth 100000 in
theorem c_T_isWon (l : Launch) (D : va_G) (cy : Nat → Nat) (a b : Nat → Nat) (v_order : Int32) (v_peaCup : Int32) (v_round : Int32) (v_eyes : (Nat → Int32)) (v_coins : (Nat → Int32)) (v_thoughts : (Nat → Int32)) (o_kind : Int32) (o_place : Int32) (o_otherPlace : Int32) (o_watcher : Int32) (o_number : Int32) (u : Int32) (h : f_T_isWon v_order v_peaCup o_kind o_place = some u) : Met l yX7_isWon wsX7_isWon rm_T_isWon (kk_PR D cy [(a 0, .inr (6, [.int v_order, .int v_peaCup, .int v_round, .ref (a 1), .ref (a 2), .ref (a 3)])), (a 1, .inl (cy 0, 4, .inl v_eyes)), (a 2, .inl (cy 0, 4, .inl v_coins)), (a 3, .inl (cy 0, 4, .inl v_thoughts)), (b 0, .inr (0, [.int o_kind, .int o_place, .int o_otherPlace, .int o_watcher, .int o_number]))] [.ref (a 0), .ref (b 0)]) (vp_Si (fun r => r = u)) 0 0 (fun _ => False) := by
  refine kk_met (cc := cX7_isWon) (maxL := 2) (ret := some .boolean) (by decide) rfl (Nat.le_of_ble_eq_true rfl) ?_
  intro p e s m below meth c hx hb hr hml hts hown hlocks hB ls hl Q hQ
  obtain ⟨hP, hE⟩ := hB
  have hown : s.vm.findClass RX7 = some m.cls := hown
  have hl : lv_has ls 2 [(0, .ref (a 0)), (1, .ref (b 0))] := hl
  unfold f_T_isWon at h
  refine lv_aload_n hx hb dX7_isWon_0 rfl (lv_at hl 1 rfl) ?_
  refine va_get (D := D) (ci := 0) (v := .int o_kind) (C := RX0) (T := TX0) (N := 5) hx hb hts (fun _ h9 => List.mem_cons_of_mem _ (List.mem_append_left _ (List.mem_append_right _ h9))) hown hE.1 hP 4 rfl rfl 0 (by decide) (hts (.fieldLink RX7 46 "PeaCups$Act" "kind" "I") (List.mem_of_getElem? (i := 1) rfl)) (fun _ h9 => h9) rfl dX7_isWon_1 ?_
  refine lv_iconst (v := 3) hx hb dX7_isWon_4 (by decide) ?_
  refine lv_icmp_ne (tgt := 23) hx hb dX7_isWon_5 (by decide) (fun c_5 => ?_) (fun c_5 => ?_)
  · have h := kk_f c_5 h
    refine lv_iconst (v := 0) hx hb dX7_isWon_23 (by decide) ?_
    exact kk_rz hx hb hr hlocks hQ rfl h dX7_isWon_24
  · have h := kk_t c_5 h
    refine lv_aload_n hx hb dX7_isWon_8 rfl (lv_at hl 0 rfl) ?_
    obtain ⟨u_9, h_9, h⟩ := kk_b h
    refine kk_si (va_runV (As := []) (rest := []) ⟨hx, hb, hml, hown, hts⟩ (c_T_peaPlace l D cy a v_order v_peaCup v_round v_eyes v_coins v_thoughts u_9 h_9) (cwV 0 hts gX7_isWon_X7_peaPlace rfl rfl rfl nv_T_peaPlace ⟨Nat.le_of_ble_eq_true rfl, Nat.le_of_ble_eq_true rfl⟩) (kk_preRV hE (hP.sub [0, 1, 2, 3] rfl) (q0 := 0) (ci := 6) rfl rfl) rfl rfl hl.1 rfl (lv_room (Nat.le_of_ble_eq_true rfl)) dX7_isWon_9 ⟨Nat.zero_le _, Nat.zero_le _⟩) ?_
    refine lv_aload_n hx hb dX7_isWon_12 rfl (lv_at hl 1 rfl) ?_
    refine va_get (D := D) (ci := 0) (v := .int o_place) (C := RX0) (T := TX0) (N := 5) hx hb hts (fun _ h9 => List.mem_cons_of_mem _ (List.mem_append_left _ (List.mem_append_right _ h9))) hown hE.1 hP 4 rfl rfl 1 (by decide) (hts (.fieldLink RX7 51 "PeaCups$Act" "place" "I") (List.mem_of_getElem? (i := 2) rfl)) (fun _ h9 => h9) rfl dX7_isWon_13 ?_
    refine lv_icmp_ne (tgt := 23) hx hb dX7_isWon_16 (by decide) (fun c_16 => ?_) (fun c_16 => ?_)
    · have h := kk_f c_16 h
      refine lv_iconst (v := 0) hx hb dX7_isWon_23 (by decide) ?_
      exact kk_rz hx hb hr hlocks hQ rfl h dX7_isWon_24
    · have h := kk_t c_16 h
      refine lv_iconst (v := 1) hx hb dX7_isWon_19 (by decide) ?_
      refine lv_goto (tgt := 24) hx hb dX7_isWon_20 (by decide) ?_
      exact kk_rz hx hb hr hlocks hQ rfl h dX7_isWon_24
abbrev rm_T_wrongWatchers : Room := { frames := 2, cells := 0, slots := 0, locals := 42 }
theorem nv_T_wrongWatchers : yX7_wrongWatchers.cls = RX7 ∧ yX7_wrongWatchers.cls ≠ "java/lang/invoke/MethodHandle" ∧ yX7_wrongWatchers.cls ≠ "java/lang/invoke/VarHandle" ∧ (parseMethodDescriptor yX7_wrongWatchers.desc).map (fun d => d.parameters.length) = some 0 := by decide +kernel
set_option maxHeartbeats 4000000 in
set_option maxRecDepth 100000 in
theorem c_T_wrongWatchers (l : Launch) (D : va_G) (cy : Nat → Nat) (a : Nat → Nat) (v_order : Int32) (v_peaCup : Int32) (v_round : Int32) (v_eyes : (Nat → Int32)) (v_coins : (Nat → Int32)) (v_thoughts : (Nat → Int32)) (u : Int32) (h : f_T_wrongWatchers v_order v_peaCup v_thoughts = some u) : Met l yX7_wrongWatchers wsX7_wrongWatchers rm_T_wrongWatchers (kk_PR D cy [(a 0, .inr (6, [.int v_order, .int v_peaCup, .int v_round, .ref (a 1), .ref (a 2), .ref (a 3)])), (a 1, .inl (cy 0, 4, .inl v_eyes)), (a 2, .inl (cy 0, 4, .inl v_coins)), (a 3, .inl (cy 0, 4, .inl v_thoughts))] [.ref (a 0)]) (vp_Si (fun r => r = u)) 0 0 (fun _ => False) := by
  refine kk_met (cc := cX7_wrongWatchers) (maxL := 4) (ret := some .int) (by decide) rfl (Nat.le_of_ble_eq_true rfl) ?_
  intro p e s m below meth c hx hb hr hml hts hown hlocks hB ls hl Q hQ
  obtain ⟨hP, hE⟩ := hB
  have hown : s.vm.findClass RX7 = some m.cls := hown
  have hl : lv_has ls 4 [(0, .ref (a 0))] := hl
  unfold f_T_wrongWatchers at h
  have L_9 : ∀ (x1 : Int32) (n_9 : Nat) (x2 : Int32) (x3 : Int32) (ls : Array Slot) (hl : lv_has ls 4 [(0, .ref (a 0)), (1, .int x1), (2, .int x2), (3, .int x3)]) (h : it2 (bd_T_wrongWatchers_9 x1 v_order v_peaCup v_thoughts) n_9 x2 x3 = some u), W p l e rm_T_wrongWatchers s m [.ref (a 0)].toArray below meth c s.heap [] 0 0 Q (F0 m 9 ls []) := by
    intro x1 n_9
    induction n_9 with
    | zero => intro x2 x3 ls hl h; exact kk_no h
    | succ n_9 ih_9 =>
      have J_33 : ∀ (x2 : Int32) (x3 : Int32) (ls : Array Slot) (hl : lv_has ls 4 [(0, .ref (a 0)), (1, .int x1), (2, .int x2), (3, .int x3)]) (h : jn_T_wrongWatchers_33 (it2 (bd_T_wrongWatchers_9 x1 v_order v_peaCup v_thoughts) n_9) x1 x2 x3 v_order v_peaCup v_thoughts = some u), W p l e rm_T_wrongWatchers s m [.ref (a 0)].toArray below meth c s.heap [] 0 0 Q (F0 m 33 ls []) := by
        intro x2 x3 ls hl h
        unfold jn_T_wrongWatchers_33 at h
        refine lv_iload_n hx hb dX7_wrongWatchers_33 rfl (lv_at hl 2 rfl) ?_
        refine lv_iconst (v := 1) hx hb dX7_wrongWatchers_34 (by decide) ?_
        refine lv_iload_n hx hb dX7_wrongWatchers_35 rfl (lv_at hl 3 rfl) ?_
        refine lv_ishl hx hb dX7_wrongWatchers_36 ?_
        refine lv_ior hx hb dX7_wrongWatchers_37 ?_
        refine lv_istore_n (lv' := [(2, .int (x2 ||| ((1 : Int32) <<< (x3 &&& 31)))), (0, .ref (a 0)), (1, .int x1), (3, .int x3)]) hx hb dX7_wrongWatchers_38 rfl hl (by decide) rfl (fun ls hl => ?_)
        refine lv_iinc (v := x3 + 1) (lv' := [(3, .int (x3 + 1)), (2, .int (x2 ||| ((1 : Int32) <<< (x3 &&& 31)))), (0, .ref (a 0)), (1, .int x1)]) hx hb dX7_wrongWatchers_39 hl (k := 3) rfl rfl (by decide) rfl (fun ls hl => ?_)
        refine lv_goto (tgt := 9) hx hb dX7_wrongWatchers_42 (by decide) ?_
        exact ih_9 (x2 ||| ((1 : Int32) <<< (x3 &&& 31))) (x3 + 1) _ (lv_sub hl [2, 3, 1, 0] rfl) h
      intro x2 x3 ls hl h
      have h : bd_T_wrongWatchers_9 x1 v_order v_peaCup v_thoughts (it2 (bd_T_wrongWatchers_9 x1 v_order v_peaCup v_thoughts) n_9) x2 x3 = some u := h
      unfold bd_T_wrongWatchers_9 at h
      refine lv_iload_n hx hb dX7_wrongWatchers_9 rfl (lv_at hl 3 rfl) ?_
      refine lv_iconst (v := 4) hx hb dX7_wrongWatchers_10 (by decide) ?_
      refine lv_icmp_ge (tgt := 45) hx hb dX7_wrongWatchers_11 (by decide) (fun c_11 => ?_) (fun c_11 => ?_)
      · have h := kk_t c_11 h
        refine lv_iload_n hx hb dX7_wrongWatchers_45 rfl (lv_at hl 2 rfl) ?_
        exact kk_ri hx hb hr hlocks hQ h dX7_wrongWatchers_46
      · have h := kk_f c_11 h
        refine lv_iload_n hx hb dX7_wrongWatchers_14 rfl (lv_at hl 1 rfl) ?_
        refine lv_bipush (v := (-6)) hx hb dX7_wrongWatchers_15 (by decide) ?_
        refine lv_icmp_eq (tgt := 33) hx hb dX7_wrongWatchers_17 (by decide) (fun c_17 => ?_) (fun c_17 => ?_)
        · have h := kk_t c_17 h
          exact J_33 x2 x3 _ (lv_sub hl [0, 1, 2, 3] rfl) h
        · have h := kk_f c_17 h
          refine lv_aload_n hx hb dX7_wrongWatchers_20 rfl (lv_at hl 0 rfl) ?_
          refine va_get (D := D) (ci := 6) (v := .ref (a 3)) (C := RX7) (T := TX7) (N := 6) hx hb hts (fun _ h9 => List.mem_cons_of_mem _ (List.mem_append_right _ h9)) hown hE.1 hP 0 rfl rfl 5 (by decide) (hts (.fieldLink RX7 31 "PeaCups$Table" "thoughts" "[I") (List.mem_of_getElem? (i := 1) rfl)) (fun _ h9 => h9) rfl dX7_wrongWatchers_21 ?_
          refine lv_iload_n hx hb dX7_wrongWatchers_24 rfl (lv_at hl 3 rfl) ?_
          obtain ⟨i_25, h⟩ := kk_x h
          refine va_iald hx hb hE.1 hP 3 0 rfl rfl i_25 dX7_wrongWatchers_25 ?_
          refine lv_iload_n hx hb dX7_wrongWatchers_26 rfl (lv_at hl 1 rfl) ?_
          refine lv_ishr hx hb dX7_wrongWatchers_27 ?_
          refine lv_iconst (v := 1) hx hb dX7_wrongWatchers_28 (by decide) ?_
          refine lv_iand hx hb dX7_wrongWatchers_29 ?_
          refine lv_if_ne (tgt := 39) hx hb dX7_wrongWatchers_30 (by decide) (fun c_30 => ?_) (fun c_30 => ?_)
          · have h := kk_f c_30 h
            refine lv_iinc (v := x3 + 1) (lv' := [(3, .int (x3 + 1)), (0, .ref (a 0)), (1, .int x1), (2, .int x2)]) hx hb dX7_wrongWatchers_39 hl (k := 3) rfl rfl (by decide) rfl (fun ls hl => ?_)
            refine lv_goto (tgt := 9) hx hb dX7_wrongWatchers_42 (by decide) ?_
            exact ih_9 x2 (x3 + 1) _ (lv_sub hl [1, 2, 3, 0] rfl) h
          · have h := kk_t c_30 h
            exact J_33 x2 x3 _ (lv_sub hl [0, 1, 2, 3] rfl) h
  refine lv_aload_n hx hb dX7_wrongWatchers_0 rfl (lv_at hl 0 rfl) ?_
  obtain ⟨u_1, h_1, h⟩ := kk_b h
  refine kk_si (va_runV (As := []) (rest := []) ⟨hx, hb, hml, hown, hts⟩ (c_T_peaPlace l D cy a v_order v_peaCup v_round v_eyes v_coins v_thoughts u_1 h_1) (cwV 0 hts gX7_wrongWatchers_X7_peaPlace rfl rfl rfl nv_T_peaPlace ⟨Nat.le_of_ble_eq_true rfl, Nat.le_of_ble_eq_true rfl⟩) (kk_preRV hE (hP.sub [0, 1, 2, 3] rfl) (q0 := 0) (ci := 6) rfl rfl) rfl rfl hl.1 rfl (lv_room (Nat.le_of_ble_eq_true rfl)) dX7_wrongWatchers_1 ⟨Nat.zero_le _, Nat.zero_le _⟩) ?_
  refine lv_istore_n (lv' := [(1, .int u_1), (0, .ref (a 0))]) hx hb dX7_wrongWatchers_4 rfl hl (by decide) rfl (fun ls hl => ?_)
  refine lv_iconst (v := 0) hx hb dX7_wrongWatchers_5 (by decide) ?_
  refine lv_istore_n (lv' := [(2, .int 0), (1, .int u_1), (0, .ref (a 0))]) hx hb dX7_wrongWatchers_6 rfl hl (by decide) rfl (fun ls hl => ?_)
  refine lv_iconst (v := 0) hx hb dX7_wrongWatchers_7 (by decide) ?_
  refine lv_istore_n (lv' := [(3, .int 0), (2, .int 0), (1, .int u_1), (0, .ref (a 0))]) hx hb dX7_wrongWatchers_8 rfl hl (by decide) rfl (fun ls hl => ?_)
  exact L_9 u_1 _ 0 0 _ (lv_sub hl [3, 2, 1, 0] rfl) h
abbrev rm_T_withBitsChanged : Room := { frames := 0, cells := 0, slots := 0, locals := 0 }
theorem nd_T_withBitsChanged : yX7_withBitsChanged.cls ≠ "java/lang/invoke/MethodHandle" ∧ yX7_withBitsChanged.cls ≠ "java/lang/invoke/VarHandle" ∧ (parseMethodDescriptor yX7_withBitsChanged.desc).map (fun d => d.parameters.length) = some 3 := by decide +kernel
set_option maxHeartbeats 4000000 in
set_option maxRecDepth 100000 in
theorem c_T_withBitsChanged (l : Launch) (p0 : Int32) (p1 : Int32) (p2 : Int32) (u : Int32) (h : f_T_withBitsChanged p0 p1 p2 = some u) : Met l yX7_withBitsChanged wsX7_withBitsChanged rm_T_withBitsChanged (kk_PS [.int p0, .int p1, .int p2]) (vp_Si (fun r => r = u)) 0 0 (fun _ => False) := by
  refine kk_met (cc := cX7_withBitsChanged) (maxL := 4) (ret := some .int) (by decide) rfl (Nat.le_of_ble_eq_true rfl) ?_
  intro p e s m below meth c hx hb hr hml hts hown hlocks hB ls hl Q hQ
  have hN := hB
  have hown : s.vm.findClass RX7 = some m.cls := hown
  have hl : lv_has ls 4 [(0, .int p0), (1, .int p1), (2, .int p2)] := hl
  unfold f_T_withBitsChanged at h
  refine lv_iload_n hx hb dX7_withBitsChanged_0 rfl (lv_at hl 0 rfl) ?_
  refine lv_iload_n hx hb dX7_withBitsChanged_1 rfl (lv_at hl 1 rfl) ?_
  refine lv_ishr hx hb dX7_withBitsChanged_2 ?_
  refine lv_iload_n hx hb dX7_withBitsChanged_3 rfl (lv_at hl 0 rfl) ?_
  refine lv_iload_n hx hb dX7_withBitsChanged_4 rfl (lv_at hl 2 rfl) ?_
  refine lv_ishr hx hb dX7_withBitsChanged_5 ?_
  refine lv_ixor hx hb dX7_withBitsChanged_6 ?_
  refine lv_iconst (v := 1) hx hb dX7_withBitsChanged_7 (by decide) ?_
  refine lv_iand hx hb dX7_withBitsChanged_8 ?_
  refine lv_istore_n (lv' := [(3, .int (((p0 >>> (p1 &&& 31)) ^^^ (p0 >>> (p2 &&& 31))) &&& 1)), (0, .int p0), (1, .int p1), (2, .int p2)]) hx hb dX7_withBitsChanged_9 rfl hl (by decide) rfl (fun ls hl => ?_)
  refine lv_iload_n hx hb dX7_withBitsChanged_10 rfl (lv_at hl 1 rfl) ?_
  refine lv_iload_n hx hb dX7_withBitsChanged_11 rfl (lv_at hl 0 rfl) ?_
  refine lv_iload_n hx hb dX7_withBitsChanged_12 rfl (lv_at hl 2 rfl) ?_
  refine lv_ishl hx hb dX7_withBitsChanged_13 ?_
  refine lv_ixor hx hb dX7_withBitsChanged_14 ?_
  refine lv_iload_n hx hb dX7_withBitsChanged_15 rfl (lv_at hl 0 rfl) ?_
  refine lv_iload_n hx hb dX7_withBitsChanged_16 rfl (lv_at hl 3 rfl) ?_
  refine lv_ishl hx hb dX7_withBitsChanged_17 ?_
  refine lv_ixor hx hb dX7_withBitsChanged_18 ?_
  exact kk_ri hx hb hr hlocks hQ h dX7_withBitsChanged_19
abbrev rm_T_change : Room := { frames := 1, cells := 0, slots := 0, locals := 23 }
theorem nv_T_change : yX7_change.cls = RX7 ∧ yX7_change.cls ≠ "java/lang/invoke/MethodHandle" ∧ yX7_change.cls ≠ "java/lang/invoke/VarHandle" ∧ (parseMethodDescriptor yX7_change.desc).map (fun d => d.parameters.length) = some 3 := by decide +kernel
abbrev wo_T_change (cy : Nat → Nat) (a : Nat → Nat) (v_peaCup : Int32) (v_round : Int32) (v_eyes : (Nat → Int32)) (v_coins : (Nat → Int32)) (u : Int32 × (Nat → Int32)) : va_W := [(a 0, .inr (6, [.int u.1, .int v_peaCup, .int v_round, .ref (a 1), .ref (a 2), .ref (a 3)])), (a 1, .inl (cy 0, 4, .inl v_eyes)), (a 2, .inl (cy 0, 4, .inl v_coins)), (a 3, .inl (cy 0, 4, .inl u.2))]
set_option maxHeartbeats 4000000 in
set_option maxRecDepth 100000 in
theorem c_T_change (l : Launch) (D : va_G) (cy : Nat → Nat) (a : Nat → Nat) (sz : Nat) (p1 : Int32) (p2 : Int32) (p3 : Int32) (v_order : Int32) (v_peaCup : Int32) (v_round : Int32) (v_eyes : (Nat → Int32)) (v_coins : (Nat → Int32)) (v_thoughts : (Nat → Int32)) (u : Int32 × (Nat → Int32)) (h : f_T_change p1 p2 p3 v_order v_eyes v_thoughts = some u) : Met l yX7_change wsX7_change rm_T_change (kk_PW D cy [(a 0, .inr (6, [.int v_order, .int v_peaCup, .int v_round, .ref (a 1), .ref (a 2), .ref (a 3)])), (a 1, .inl (cy 0, 4, .inl v_eyes)), (a 2, .inl (cy 0, 4, .inl v_coins)), (a 3, .inl (cy 0, 4, .inl v_thoughts))] sz [.ref (a 0), .int p1, .int p2, .int p3]) (kk_Qv D (wo_T_change cy a v_peaCup v_round v_eyes v_coins u) (va_A [(a 0, .inr (6, [.int v_order, .int v_peaCup, .int v_round, .ref (a 1), .ref (a 2), .ref (a 3)])), (a 1, .inl (cy 0, 4, .inl v_eyes)), (a 2, .inl (cy 0, 4, .inl v_coins)), (a 3, .inl (cy 0, 4, .inl v_thoughts))] sz)) 0 0 (va_A [(a 0, .inr (6, [.int v_order, .int v_peaCup, .int v_round, .ref (a 1), .ref (a 2), .ref (a 3)])), (a 1, .inl (cy 0, 4, .inl v_eyes)), (a 2, .inl (cy 0, 4, .inl v_coins)), (a 3, .inl (cy 0, 4, .inl v_thoughts))] sz) := by
  refine kk_met (cc := cX7_change) (maxL := 5) (ret := none) (by decide) rfl (Nat.le_of_ble_eq_true rfl) ?_
  intro p e s m below meth c hx hb hr hml hts hown hlocks hB ls hl Q hQ
  obtain ⟨hsz, hP, hE, hD0⟩ := hB
  subst hsz
  have hD := hD0.self (sz := s.heap.size)
  generalize hAe : va_A [(a 0, .inr (6, [.int v_order, .int v_peaCup, .int v_round, .ref (a 1), .ref (a 2), .ref (a 3)])), (a 1, .inl (cy 0, 4, .inl v_eyes)), (a 2, .inl (cy 0, 4, .inl v_coins)), (a 3, .inl (cy 0, 4, .inl v_thoughts))] s.heap.size = A at hD hQ
  have hA : ∀ q : Nat, s.heap.size ≤ q → A q := fun q h => by rw [← hAe]; exact Or.inr h
  have hS : va_S A s.heap s.heap [] := va_S.rf
  have hown : s.vm.findClass RX7 = some m.cls := hown
  have hl : lv_has ls 5 [(0, .ref (a 0)), (1, .int p1), (2, .int p2), (3, .int p3)] := hl
  unfold f_T_change at h
  have L_16 : ∀ (x1 : Int32) (x2 : Int32) (x3 : Int32) (v_order : Int32) (n_16 : Nat) (x4 : Int32) (v_thoughts : (Nat → Int32)) (H : Heap) (locs : List Loc) (hP : va_P D vwCl [(a 0, .inr (6, [.int v_order, .int v_peaCup, .int v_round, .ref (a 1), .ref (a 2), .ref (a 3)])), (a 1, .inl (cy 0, 4, .inl v_eyes)), (a 2, .inl (cy 0, 4, .inl v_coins)), (a 3, .inl (cy 0, 4, .inl v_thoughts))] H) (hD : va_D A [(a 0, .inr (6, [.int v_order, .int v_peaCup, .int v_round, .ref (a 1), .ref (a 2), .ref (a 3)])), (a 1, .inl (cy 0, 4, .inl v_eyes)), (a 2, .inl (cy 0, 4, .inl v_coins)), (a 3, .inl (cy 0, 4, .inl v_thoughts))]) (hS : va_S A s.heap H locs) (ls : Array Slot) (hl : lv_has ls 5 [(0, .ref (a 0)), (1, .int x1), (2, .int x2), (3, .int x3), (4, .int x4)]) (h : it2 (bd_T_change_16 x1 x2 x3 v_order v_eyes) n_16 x4 v_thoughts = some u), W p l e rm_T_change s m [.ref (a 0), .int p1, .int p2, .int p3].toArray below meth c H locs 0 0 Q (F0 m 16 ls []) := by
    intro x1 x2 x3 v_order n_16
    induction n_16 with
    | zero => intro x4 v_thoughts H locs hP hD hS ls hl h; exact kk_no h
    | succ n_16 ih_16 =>
      intro x4 v_thoughts H locs hP hD hS ls hl h
      have h : bd_T_change_16 x1 x2 x3 v_order v_eyes (it2 (bd_T_change_16 x1 x2 x3 v_order v_eyes) n_16) x4 v_thoughts = some u := h
      unfold bd_T_change_16 at h
      refine lv_iload hx hb dX7_change_16 (lv_at hl 4 rfl) ?_
      refine lv_iconst (v := 4) hx hb dX7_change_18 (by decide) ?_
      refine lv_icmp_ge (tgt := 63) hx hb dX7_change_19 (by decide) (fun c_19 => ?_) (fun c_19 => ?_)
      · have h := kk_t c_19 h
        exact kk_rwv (wf := wo_T_change cy a v_peaCup v_round v_eyes v_coins) hx hb hr hlocks h hQ hP hD hS dX7_change_63
      · have h := kk_f c_19 h
        refine lv_aload_n hx hb dX7_change_22 rfl (lv_at hl 0 rfl) ?_
        refine va_get (D := D) (ci := 6) (v := .ref (a 3)) (C := RX7) (T := TX7) (N := 6) hx hb hts (fun _ h9 => List.mem_cons_of_mem _ (List.mem_append_right _ h9)) hown hE.1 hP 0 rfl rfl 5 (by decide) (hts (.fieldLink RX7 31 "PeaCups$Table" "thoughts" "[I") (List.mem_of_getElem? (i := 2) rfl)) (fun _ h9 => h9) rfl dX7_change_23 ?_
        refine lv_iload hx hb dX7_change_26 (lv_at hl 4 rfl) ?_
        refine lv_aload_n hx hb dX7_change_28 rfl (lv_at hl 0 rfl) ?_
        refine va_get (D := D) (ci := 6) (v := .ref (a 1)) (C := RX7) (T := TX7) (N := 6) hx hb hts (fun _ h9 => List.mem_cons_of_mem _ (List.mem_append_right _ h9)) hown hE.1 hP 0 rfl rfl 3 (by decide) (hts (.fieldLink RX7 24 "PeaCups$Table" "eyes" "[I") (List.mem_of_getElem? (i := 3) rfl)) (fun _ h9 => h9) rfl dX7_change_29 ?_
        refine lv_iload hx hb dX7_change_32 (lv_at hl 4 rfl) ?_
        obtain ⟨i_34, h⟩ := kk_x h
        refine va_iald hx hb hE.1 hP 1 0 rfl rfl i_34 dX7_change_34 ?_
        refine lv_iload_n hx hb dX7_change_35 rfl (lv_at hl 3 rfl) ?_
        refine lv_icmp_lt (tgt := 54) hx hb dX7_change_36 (by decide) (fun c_36 => ?_) (fun c_36 => ?_)
        · have h := kk_t c_36 h
          refine lv_bipush (v := 63) hx hb dX7_change_54 (by decide) ?_
          obtain ⟨i_56, h⟩ := kk_x h
          refine va_iast hx hb hE.1 hP hD hS 3 0 rfl rfl i_56 dX7_change_56 (fun H locs hP hD hS => ?_)
          have hP : va_P D vwCl [(a 0, .inr (6, [.int v_order, .int v_peaCup, .int v_round, .ref (a 1), .ref (a 2), .ref (a 3)])), (a 1, .inl (cy 0, 4, .inl v_eyes)), (a 2, .inl (cy 0, 4, .inl v_coins)), (a 3, .inl (cy 0, 4, .inl (upd v_thoughts (x4 : Int32).toNatClampNeg 63)))] H := hP
          have hD : va_D A [(a 0, .inr (6, [.int v_order, .int v_peaCup, .int v_round, .ref (a 1), .ref (a 2), .ref (a 3)])), (a 1, .inl (cy 0, 4, .inl v_eyes)), (a 2, .inl (cy 0, 4, .inl v_coins)), (a 3, .inl (cy 0, 4, .inl (upd v_thoughts (x4 : Int32).toNatClampNeg 63)))] := hD
          refine lv_iinc (v := x4 + 1) (lv' := [(4, .int (x4 + 1)), (0, .ref (a 0)), (1, .int x1), (2, .int x2), (3, .int x3)]) hx hb dX7_change_57 hl (k := 4) rfl rfl (by decide) rfl (fun ls hl => ?_)
          refine lv_goto (tgt := 16) hx hb dX7_change_60 (by decide) ?_
          exact ih_16 (x4 + 1) (upd v_thoughts (x4 : Int32).toNatClampNeg 63) _ _ hP hD hS _ (lv_sub hl [1, 2, 3, 4, 0] rfl) h
        · have h := kk_f c_36 h
          refine lv_aload_n hx hb dX7_change_39 rfl (lv_at hl 0 rfl) ?_
          refine va_get (D := D) (ci := 6) (v := .ref (a 3)) (C := RX7) (T := TX7) (N := 6) hx hb hts (fun _ h9 => List.mem_cons_of_mem _ (List.mem_append_right _ h9)) hown hE.1 hP 0 rfl rfl 5 (by decide) (hts (.fieldLink RX7 31 "PeaCups$Table" "thoughts" "[I") (List.mem_of_getElem? (i := 2) rfl)) (fun _ h9 => h9) rfl dX7_change_40 ?_
          refine lv_iload hx hb dX7_change_43 (lv_at hl 4 rfl) ?_
          obtain ⟨i_45, h⟩ := kk_x h
          refine va_iald hx hb hE.1 hP 3 0 rfl rfl i_45 dX7_change_45 ?_
          refine lv_iload_n hx hb dX7_change_46 rfl (lv_at hl 1 rfl) ?_
          refine lv_iload_n hx hb dX7_change_47 rfl (lv_at hl 2 rfl) ?_
          obtain ⟨u_48, h_48, h⟩ := kk_b h
          refine kk_si (va_runS (As := [.int (v_thoughts (x4 : Int32).toNatClampNeg), .int x1, .int x2]) (rest := [.int x4, .ref (a 3)]) ⟨hx, hb, hml, hown, hts⟩ (c_T_withBitsChanged l (v_thoughts (x4 : Int32).toNatClampNeg) x1 x2 u_48 h_48) (va_cwS 3 hts gX7_change_X7_withBitsChanged rfl rfl rfl nd_T_withBitsChanged ⟨Nat.le_of_ble_eq_true rfl, Nat.le_of_ble_eq_true rfl⟩) (kk_preS hE.2) rfl rfl hl.1 rfl (lv_room (Nat.le_of_ble_eq_true rfl)) dX7_change_48 ⟨Nat.zero_le _, Nat.zero_le _⟩) ?_
          refine lv_goto (tgt := 56) hx hb dX7_change_51 (by decide) ?_
          obtain ⟨i_56, h⟩ := kk_x h
          refine va_iast hx hb hE.1 hP hD hS 3 0 rfl rfl i_56 dX7_change_56 (fun H locs hP hD hS => ?_)
          have hP : va_P D vwCl [(a 0, .inr (6, [.int v_order, .int v_peaCup, .int v_round, .ref (a 1), .ref (a 2), .ref (a 3)])), (a 1, .inl (cy 0, 4, .inl v_eyes)), (a 2, .inl (cy 0, 4, .inl v_coins)), (a 3, .inl (cy 0, 4, .inl (upd v_thoughts (x4 : Int32).toNatClampNeg u_48)))] H := hP
          have hD : va_D A [(a 0, .inr (6, [.int v_order, .int v_peaCup, .int v_round, .ref (a 1), .ref (a 2), .ref (a 3)])), (a 1, .inl (cy 0, 4, .inl v_eyes)), (a 2, .inl (cy 0, 4, .inl v_coins)), (a 3, .inl (cy 0, 4, .inl (upd v_thoughts (x4 : Int32).toNatClampNeg u_48)))] := hD
          refine lv_iinc (v := x4 + 1) (lv' := [(4, .int (x4 + 1)), (0, .ref (a 0)), (1, .int x1), (2, .int x2), (3, .int x3)]) hx hb dX7_change_57 hl (k := 4) rfl rfl (by decide) rfl (fun ls hl => ?_)
          refine lv_goto (tgt := 16) hx hb dX7_change_60 (by decide) ?_
          exact ih_16 (x4 + 1) (upd v_thoughts (x4 : Int32).toNatClampNeg u_48) _ _ hP hD hS _ (lv_sub hl [1, 2, 3, 4, 0] rfl) h
  refine lv_aload_n hx hb dX7_change_0 rfl (lv_at hl 0 rfl) ?_
  refine lv_aload_n hx hb dX7_change_1 rfl (lv_at hl 0 rfl) ?_
  refine va_get (D := D) (ci := 6) (v := .int v_order) (C := RX7) (T := TX7) (N := 6) hx hb hts (fun _ h9 => List.mem_cons_of_mem _ (List.mem_append_right _ h9)) hown hE.1 hP 0 rfl rfl 0 (by decide) (hts (.fieldLink RX7 12 "PeaCups$Table" "order" "I") (List.mem_of_getElem? (i := 1) rfl)) (fun _ h9 => h9) rfl dX7_change_2 ?_
  refine lv_iload_n hx hb dX7_change_5 rfl (lv_at hl 1 rfl) ?_
  refine lv_iload_n hx hb dX7_change_6 rfl (lv_at hl 2 rfl) ?_
  obtain ⟨u_7, h_7, h⟩ := kk_b h
  refine kk_si (va_runS (As := [.int v_order, .int p1, .int p2]) (rest := [.ref (a 0)]) ⟨hx, hb, hml, hown, hts⟩ (c_O_changed l v_order p1 p2 u_7 h_7) (va_cwS 3 hts gX7_change_X2_changed rfl rfl rfl nd_O_changed ⟨Nat.le_of_ble_eq_true rfl, Nat.le_of_ble_eq_true rfl⟩) (kk_preS hE.2) rfl rfl hl.1 rfl (lv_room (Nat.le_of_ble_eq_true rfl)) dX7_change_7 ⟨Nat.zero_le _, Nat.zero_le _⟩) ?_
  refine va_put (D := D) (ci := 6) (v := .int u_7) (ty := .int) (C := RX7) (T := TX7) (N := 6) hx hb hts (fun _ h9 => List.mem_cons_of_mem _ (List.mem_append_right _ h9)) tyX7 tyX7_ok nmX7 hown hE.1 hP hD hS 0 rfl rfl 0 (by decide) (hts (.fieldLink RX7 12 "PeaCups$Table" "order" "I") (List.mem_of_getElem? (i := 1) rfl)) (fun _ h9 => h9) rfl (by decide +kernel) rfl rfl (Nat.le_of_ble_eq_true rfl) dX7_change_10 (fun H locs hP hD hS => ?_)
  have hP : va_P D vwCl [(a 0, .inr (6, [.int u_7, .int v_peaCup, .int v_round, .ref (a 1), .ref (a 2), .ref (a 3)])), (a 1, .inl (cy 0, 4, .inl v_eyes)), (a 2, .inl (cy 0, 4, .inl v_coins)), (a 3, .inl (cy 0, 4, .inl v_thoughts))] H := hP
  have hD : va_D A [(a 0, .inr (6, [.int u_7, .int v_peaCup, .int v_round, .ref (a 1), .ref (a 2), .ref (a 3)])), (a 1, .inl (cy 0, 4, .inl v_eyes)), (a 2, .inl (cy 0, 4, .inl v_coins)), (a 3, .inl (cy 0, 4, .inl v_thoughts))] := hD
  refine lv_iconst (v := 0) hx hb dX7_change_13 (by decide) ?_
  refine lv_istore (lv' := [(4, .int 0), (0, .ref (a 0)), (1, .int p1), (2, .int p2), (3, .int p3)]) hx hb dX7_change_14 hl (by decide) rfl (fun ls hl => ?_)
  exact L_16 p1 p2 p3 u_7 _ 0 v_thoughts _ _ hP hD hS _ (lv_sub hl [1, 2, 3, 4, 0] rfl) h
abbrev rm_T_lift : Room := { frames := 2, cells := 0, slots := 0, locals := 42 }
theorem nv_T_lift : yX7_lift.cls = RX7 ∧ yX7_lift.cls ≠ "java/lang/invoke/MethodHandle" ∧ yX7_lift.cls ≠ "java/lang/invoke/VarHandle" ∧ (parseMethodDescriptor yX7_lift.desc).map (fun d => d.parameters.length) = some 1 := by decide +kernel
abbrev wo_T_lift (cy : Nat → Nat) (a : Nat → Nat) (v_order : Int32) (v_peaCup : Int32) (v_round : Int32) (v_eyes : (Nat → Int32)) (v_coins : (Nat → Int32)) (u : (Nat → Int32)) : va_W := [(a 0, .inr (6, [.int v_order, .int v_peaCup, .int v_round, .ref (a 1), .ref (a 2), .ref (a 3)])), (a 1, .inl (cy 0, 4, .inl v_eyes)), (a 2, .inl (cy 0, 4, .inl v_coins)), (a 3, .inl (cy 0, 4, .inl u))]
set_option maxHeartbeats 4000000 in
set_option maxRecDepth 100000 in
theorem c_T_lift (l : Launch) (D : va_G) (cy : Nat → Nat) (a : Nat → Nat) (sz : Nat) (p1 : Int32) (v_order : Int32) (v_peaCup : Int32) (v_round : Int32) (v_eyes : (Nat → Int32)) (v_coins : (Nat → Int32)) (v_thoughts : (Nat → Int32)) (u : (Nat → Int32)) (h : f_T_lift p1 v_order v_peaCup v_thoughts = some u) : Met l yX7_lift wsX7_lift rm_T_lift (kk_PW D cy [(a 0, .inr (6, [.int v_order, .int v_peaCup, .int v_round, .ref (a 1), .ref (a 2), .ref (a 3)])), (a 1, .inl (cy 0, 4, .inl v_eyes)), (a 2, .inl (cy 0, 4, .inl v_coins)), (a 3, .inl (cy 0, 4, .inl v_thoughts))] sz [.ref (a 0), .int p1]) (kk_Qv D (wo_T_lift cy a v_order v_peaCup v_round v_eyes v_coins u) (va_A [(a 0, .inr (6, [.int v_order, .int v_peaCup, .int v_round, .ref (a 1), .ref (a 2), .ref (a 3)])), (a 1, .inl (cy 0, 4, .inl v_eyes)), (a 2, .inl (cy 0, 4, .inl v_coins)), (a 3, .inl (cy 0, 4, .inl v_thoughts))] sz)) 0 0 (va_A [(a 0, .inr (6, [.int v_order, .int v_peaCup, .int v_round, .ref (a 1), .ref (a 2), .ref (a 3)])), (a 1, .inl (cy 0, 4, .inl v_eyes)), (a 2, .inl (cy 0, 4, .inl v_coins)), (a 3, .inl (cy 0, 4, .inl v_thoughts))] sz) := by
  refine kk_met (cc := cX7_lift) (maxL := 6) (ret := none) (by decide) rfl (Nat.le_of_ble_eq_true rfl) ?_
  intro p e s m below meth c hx hb hr hml hts hown hlocks hB ls hl Q hQ
  obtain ⟨hsz, hP, hE, hD0⟩ := hB
  subst hsz
  have hD := hD0.self (sz := s.heap.size)
  generalize hAe : va_A [(a 0, .inr (6, [.int v_order, .int v_peaCup, .int v_round, .ref (a 1), .ref (a 2), .ref (a 3)])), (a 1, .inl (cy 0, 4, .inl v_eyes)), (a 2, .inl (cy 0, 4, .inl v_coins)), (a 3, .inl (cy 0, 4, .inl v_thoughts))] s.heap.size = A at hD hQ
  have hA : ∀ q : Nat, s.heap.size ≤ q → A q := fun q h => by rw [← hAe]; exact Or.inr h
  have hS : va_S A s.heap s.heap [] := va_S.rf
  have hown : s.vm.findClass RX7 = some m.cls := hown
  have hl : lv_has ls 6 [(0, .ref (a 0)), (1, .int p1)] := hl
  unfold f_T_lift at h
  have L_21 : ∀ (x2 : Int32) (x3 : Int32) (n_21 : Nat) (x4 : Int32) (v_thoughts : (Nat → Int32)) (H : Heap) (locs : List Loc) (hP : va_P D vwCl [(a 0, .inr (6, [.int v_order, .int v_peaCup, .int v_round, .ref (a 1), .ref (a 2), .ref (a 3)])), (a 1, .inl (cy 0, 4, .inl v_eyes)), (a 2, .inl (cy 0, 4, .inl v_coins)), (a 3, .inl (cy 0, 4, .inl v_thoughts))] H) (hD : va_D A [(a 0, .inr (6, [.int v_order, .int v_peaCup, .int v_round, .ref (a 1), .ref (a 2), .ref (a 3)])), (a 1, .inl (cy 0, 4, .inl v_eyes)), (a 2, .inl (cy 0, 4, .inl v_coins)), (a 3, .inl (cy 0, 4, .inl v_thoughts))]) (hS : va_S A s.heap H locs) (ls : Array Slot) (hl : lv_has ls 6 [(0, .ref (a 0)), (2, .int x2), (3, .int x3), (4, .int x4)]) (h : it2 (bd_T_lift_21 x2 x3 v_order v_peaCup) n_21 x4 v_thoughts = some u), W p l e rm_T_lift s m [.ref (a 0), .int p1].toArray below meth c H locs 0 0 Q (F0 m 21 ls []) := by
    intro x2 x3 n_21
    induction n_21 with
    | zero => intro x4 v_thoughts H locs hP hD hS ls hl h; exact kk_no h
    | succ n_21 ih_21 =>
      intro x4 v_thoughts H locs hP hD hS ls hl h
      have h : bd_T_lift_21 x2 x3 v_order v_peaCup (it2 (bd_T_lift_21 x2 x3 v_order v_peaCup) n_21) x4 v_thoughts = some u := h
      unfold bd_T_lift_21 at h
      refine lv_iload hx hb dX7_lift_21 (lv_at hl 3 rfl) ?_
      refine lv_iconst (v := 4) hx hb dX7_lift_23 (by decide) ?_
      refine lv_icmp_ge (tgt := 84) hx hb dX7_lift_24 (by decide) (fun c_24 => ?_) (fun c_24 => ?_)
      · have h := kk_t c_24 h
        exact kk_rwv (wf := wo_T_lift cy a v_order v_peaCup v_round v_eyes v_coins) hx hb hr hlocks h hQ hP hD hS dX7_lift_84
      · have h := kk_f c_24 h
        refine lv_aload_n hx hb dX7_lift_27 rfl (lv_at hl 0 rfl) ?_
        refine va_get (D := D) (ci := 6) (v := .ref (a 3)) (C := RX7) (T := TX7) (N := 6) hx hb hts (fun _ h9 => List.mem_cons_of_mem _ (List.mem_append_right _ h9)) hown hE.1 hP 0 rfl rfl 5 (by decide) (hts (.fieldLink RX7 31 "PeaCups$Table" "thoughts" "[I") (List.mem_of_getElem? (i := 1) rfl)) (fun _ h9 => h9) rfl dX7_lift_28 ?_
        refine lv_iload hx hb dX7_lift_31 (lv_at hl 3 rfl) ?_
        obtain ⟨i_33, h⟩ := kk_x h
        refine va_iald hx hb hE.1 hP 3 0 rfl rfl i_33 dX7_lift_33 ?_
        refine lv_iload_n hx hb dX7_lift_34 rfl (lv_at hl 1 rfl) ?_
        refine lv_iconst (v := (-1)) hx hb dX7_lift_35 (by decide) ?_
        refine lv_ixor hx hb dX7_lift_36 ?_
        refine lv_iand hx hb dX7_lift_37 ?_
        refine lv_istore (lv' := [(5, .int ((v_thoughts (x4 : Int32).toNatClampNeg) &&& (x2 ^^^ (-1)))), (0, .ref (a 0)), (2, .int x2), (3, .int x3), (4, .int x4)]) hx hb dX7_lift_38 hl (by decide) rfl (fun ls hl => ?_)
        refine lv_iload_n hx hb dX7_lift_40 rfl (lv_at hl 3 rfl) ?_
        refine lv_if_eq (tgt := 55) hx hb dX7_lift_41 (by decide) (fun c_41 => ?_) (fun c_41 => ?_)
        · have h := kk_t c_41 h
          refine lv_aload_n hx hb dX7_lift_55 rfl (lv_at hl 1 rfl) ?_
          refine va_get (D := D) (ci := 6) (v := .ref (a 3)) (C := RX7) (T := TX7) (N := 6) hx hb hts (fun _ h9 => List.mem_cons_of_mem _ (List.mem_append_right _ h9)) hown hE.1 hP 0 rfl rfl 5 (by decide) (hts (.fieldLink RX7 31 "PeaCups$Table" "thoughts" "[I") (List.mem_of_getElem? (i := 1) rfl)) (fun _ h9 => h9) rfl dX7_lift_56 ?_
          refine lv_iload hx hb dX7_lift_59 (lv_at hl 4 rfl) ?_
          refine lv_iload hx hb dX7_lift_61 (lv_at hl 0 rfl) ?_
          refine lv_if_eq (tgt := 71) hx hb dX7_lift_63 (by decide) (fun c_63 => ?_) (fun c_63 => ?_)
          · have h := kk_t c_63 h
            refine lv_bipush (v := 63) hx hb dX7_lift_71 (by decide) ?_
            refine lv_iload_n hx hb dX7_lift_73 rfl (lv_at hl 2 rfl) ?_
            refine lv_iconst (v := (-1)) hx hb dX7_lift_74 (by decide) ?_
            refine lv_ixor hx hb dX7_lift_75 ?_
            refine lv_iand hx hb dX7_lift_76 ?_
            obtain ⟨i_77, h⟩ := kk_x h
            refine va_iast hx hb hE.1 hP hD hS 3 0 rfl rfl i_77 dX7_lift_77 (fun H locs hP hD hS => ?_)
            have hP : va_P D vwCl [(a 0, .inr (6, [.int v_order, .int v_peaCup, .int v_round, .ref (a 1), .ref (a 2), .ref (a 3)])), (a 1, .inl (cy 0, 4, .inl v_eyes)), (a 2, .inl (cy 0, 4, .inl v_coins)), (a 3, .inl (cy 0, 4, .inl (upd v_thoughts (x4 : Int32).toNatClampNeg (63 &&& (x2 ^^^ (-1))))))] H := hP
            have hD : va_D A [(a 0, .inr (6, [.int v_order, .int v_peaCup, .int v_round, .ref (a 1), .ref (a 2), .ref (a 3)])), (a 1, .inl (cy 0, 4, .inl v_eyes)), (a 2, .inl (cy 0, 4, .inl v_coins)), (a 3, .inl (cy 0, 4, .inl (upd v_thoughts (x4 : Int32).toNatClampNeg (63 &&& (x2 ^^^ (-1))))))] := hD
            refine lv_iinc (v := x4 + 1) (lv' := [(4, .int (x4 + 1)), (5, .int ((v_thoughts (x4 : Int32).toNatClampNeg) &&& (x2 ^^^ (-1)))), (0, .ref (a 0)), (2, .int x2), (3, .int x3)]) hx hb dX7_lift_78 hl (k := 4) rfl rfl (by decide) rfl (fun ls hl => ?_)
            refine lv_goto (tgt := 21) hx hb dX7_lift_81 (by decide) ?_
            exact ih_21 (x4 + 1) (upd v_thoughts (x4 : Int32).toNatClampNeg (63 &&& (x2 ^^^ (-1)))) _ _ hP hD hS _ (lv_sub hl [2, 3, 4, 0] rfl) h
          · have h := kk_f c_63 h
            refine lv_iload hx hb dX7_lift_66 (lv_at hl 0 rfl) ?_
            refine lv_goto (tgt := 77) hx hb dX7_lift_68 (by decide) ?_
            obtain ⟨i_77, h⟩ := kk_x h
            refine va_iast hx hb hE.1 hP hD hS 3 0 rfl rfl i_77 dX7_lift_77 (fun H locs hP hD hS => ?_)
            have hP : va_P D vwCl [(a 0, .inr (6, [.int v_order, .int v_peaCup, .int v_round, .ref (a 1), .ref (a 2), .ref (a 3)])), (a 1, .inl (cy 0, 4, .inl v_eyes)), (a 2, .inl (cy 0, 4, .inl v_coins)), (a 3, .inl (cy 0, 4, .inl (upd v_thoughts (x4 : Int32).toNatClampNeg ((v_thoughts (x4 : Int32).toNatClampNeg) &&& (x2 ^^^ (-1))))))] H := hP
            have hD : va_D A [(a 0, .inr (6, [.int v_order, .int v_peaCup, .int v_round, .ref (a 1), .ref (a 2), .ref (a 3)])), (a 1, .inl (cy 0, 4, .inl v_eyes)), (a 2, .inl (cy 0, 4, .inl v_coins)), (a 3, .inl (cy 0, 4, .inl (upd v_thoughts (x4 : Int32).toNatClampNeg ((v_thoughts (x4 : Int32).toNatClampNeg) &&& (x2 ^^^ (-1))))))] := hD
            refine lv_iinc (v := x4 + 1) (lv' := [(4, .int (x4 + 1)), (5, .int ((v_thoughts (x4 : Int32).toNatClampNeg) &&& (x2 ^^^ (-1)))), (0, .ref (a 0)), (2, .int x2), (3, .int x3)]) hx hb dX7_lift_78 hl (k := 4) rfl rfl (by decide) rfl (fun ls hl => ?_)
            refine lv_goto (tgt := 21) hx hb dX7_lift_81 (by decide) ?_
            exact ih_21 (x4 + 1) (upd v_thoughts (x4 : Int32).toNatClampNeg ((v_thoughts (x4 : Int32).toNatClampNeg) &&& (x2 ^^^ (-1)))) _ _ hP hD hS _ (lv_sub hl [2, 3, 4, 0] rfl) h
        · have h := kk_f c_41 h
          refine lv_aload_n hx hb dX7_lift_44 rfl (lv_at hl 1 rfl) ?_
          refine va_get (D := D) (ci := 6) (v := .ref (a 3)) (C := RX7) (T := TX7) (N := 6) hx hb hts (fun _ h9 => List.mem_cons_of_mem _ (List.mem_append_right _ h9)) hown hE.1 hP 0 rfl rfl 5 (by decide) (hts (.fieldLink RX7 31 "PeaCups$Table" "thoughts" "[I") (List.mem_of_getElem? (i := 1) rfl)) (fun _ h9 => h9) rfl dX7_lift_45 ?_
          refine lv_iload hx hb dX7_lift_48 (lv_at hl 4 rfl) ?_
          refine lv_iload_n hx hb dX7_lift_50 rfl (lv_at hl 2 rfl) ?_
          obtain ⟨i_51, h⟩ := kk_x h
          refine va_iast hx hb hE.1 hP hD hS 3 0 rfl rfl i_51 dX7_lift_51 (fun H locs hP hD hS => ?_)
          have hP : va_P D vwCl [(a 0, .inr (6, [.int v_order, .int v_peaCup, .int v_round, .ref (a 1), .ref (a 2), .ref (a 3)])), (a 1, .inl (cy 0, 4, .inl v_eyes)), (a 2, .inl (cy 0, 4, .inl v_coins)), (a 3, .inl (cy 0, 4, .inl (upd v_thoughts (x4 : Int32).toNatClampNeg x2)))] H := hP
          have hD : va_D A [(a 0, .inr (6, [.int v_order, .int v_peaCup, .int v_round, .ref (a 1), .ref (a 2), .ref (a 3)])), (a 1, .inl (cy 0, 4, .inl v_eyes)), (a 2, .inl (cy 0, 4, .inl v_coins)), (a 3, .inl (cy 0, 4, .inl (upd v_thoughts (x4 : Int32).toNatClampNeg x2)))] := hD
          refine lv_goto (tgt := 78) hx hb dX7_lift_52 (by decide) ?_
          refine lv_iinc (v := x4 + 1) (lv' := [(4, .int (x4 + 1)), (5, .int ((v_thoughts (x4 : Int32).toNatClampNeg) &&& (x2 ^^^ (-1)))), (0, .ref (a 0)), (2, .int x2), (3, .int x3)]) hx hb dX7_lift_78 hl (k := 4) rfl rfl (by decide) rfl (fun ls hl => ?_)
          refine lv_goto (tgt := 21) hx hb dX7_lift_81 (by decide) ?_
          exact ih_21 (x4 + 1) (upd v_thoughts (x4 : Int32).toNatClampNeg x2) _ _ hP hD hS _ (lv_sub hl [2, 3, 4, 0] rfl) h
  refine lv_iconst (v := 1) hx hb dX7_lift_0 (by decide) ?_
  refine lv_iload_n hx hb dX7_lift_1 rfl (lv_at hl 1 rfl) ?_
  refine lv_ishl hx hb dX7_lift_2 ?_
  refine lv_istore_n (lv' := [(2, .int ((1 : Int32) <<< (p1 &&& 31))), (0, .ref (a 0)), (1, .int p1)]) hx hb dX7_lift_3 rfl hl (by decide) rfl (fun ls hl => ?_)
  refine lv_aload_n hx hb dX7_lift_4 rfl (lv_at hl 1 rfl) ?_
  obtain ⟨u_5, h_5, h⟩ := kk_b h
  refine kk_si (va_runV (As := []) (rest := []) ⟨hx, hb, hml, hown, hts⟩ (c_T_peaPlace l D cy a v_order v_peaCup v_round v_eyes v_coins v_thoughts u_5 h_5) (cwV 0 hts gX7_lift_X7_peaPlace rfl rfl rfl nv_T_peaPlace ⟨Nat.le_of_ble_eq_true rfl, Nat.le_of_ble_eq_true rfl⟩) (kk_preRV hE (hP.sub [0, 1, 2, 3] rfl) (q0 := 0) (ci := 6) rfl rfl) rfl rfl hl.1 rfl (lv_room (Nat.le_of_ble_eq_true rfl)) dX7_lift_5 ⟨Nat.zero_le _, Nat.zero_le _⟩) ?_
  refine lv_iload_n hx hb dX7_lift_8 rfl (lv_at hl 2 rfl) ?_
  refine lv_icmp_ne (tgt := 16) hx hb dX7_lift_9 (by decide) (fun c_9 => ?_) (fun c_9 => ?_)
  · have h := kk_f c_9 h
    refine lv_iconst (v := 0) hx hb dX7_lift_16 (by decide) ?_
    refine lv_istore_n (lv' := [(3, .int 0), (2, .int ((1 : Int32) <<< (p1 &&& 31))), (0, .ref (a 0)), (1, .int p1)]) hx hb dX7_lift_17 rfl hl (by decide) rfl (fun ls hl => ?_)
    refine lv_iconst (v := 0) hx hb dX7_lift_18 (by decide) ?_
    refine lv_istore (lv' := [(4, .int 0), (3, .int 0), (2, .int ((1 : Int32) <<< (p1 &&& 31))), (0, .ref (a 0)), (1, .int p1)]) hx hb dX7_lift_19 hl (by decide) rfl (fun ls hl => ?_)
    exact L_21 ((1 : Int32) <<< (p1 &&& 31)) 0 _ 0 v_thoughts _ _ hP hD hS _ (lv_sub hl [3, 2, 1, 0] rfl) h
  · have h := kk_t c_9 h
    refine lv_iconst (v := 1) hx hb dX7_lift_12 (by decide) ?_
    refine lv_goto (tgt := 17) hx hb dX7_lift_13 (by decide) ?_
    refine lv_istore_n (lv' := [(3, .int 1), (2, .int ((1 : Int32) <<< (p1 &&& 31))), (0, .ref (a 0)), (1, .int p1)]) hx hb dX7_lift_17 rfl hl (by decide) rfl (fun ls hl => ?_)
    refine lv_iconst (v := 0) hx hb dX7_lift_18 (by decide) ?_
    refine lv_istore (lv' := [(4, .int 0), (3, .int 1), (2, .int ((1 : Int32) <<< (p1 &&& 31))), (0, .ref (a 0)), (1, .int p1)]) hx hb dX7_lift_19 hl (by decide) rfl (fun ls hl => ?_)
    exact L_21 ((1 : Int32) <<< (p1 &&& 31)) 1 _ 0 v_thoughts _ _ hP hD hS _ (lv_sub hl [3, 2, 1, 0] rfl) h
abbrev rm_T_pay : Room := { frames := 1, cells := 0, slots := 0, locals := 21 }
theorem nv_T_pay : yX7_pay.cls = RX7 ∧ yX7_pay.cls ≠ "java/lang/invoke/MethodHandle" ∧ yX7_pay.cls ≠ "java/lang/invoke/VarHandle" ∧ (parseMethodDescriptor yX7_pay.desc).map (fun d => d.parameters.length) = some 2 := by decide +kernel
abbrev wo_T_pay (cy : Nat → Nat) (a : Nat → Nat) (v_order : Int32) (v_peaCup : Int32) (v_round : Int32) (v_eyes : (Nat → Int32)) (v_thoughts : (Nat → Int32)) (u : (Nat → Int32)) : va_W := [(a 0, .inr (6, [.int v_order, .int v_peaCup, .int v_round, .ref (a 1), .ref (a 2), .ref (a 3)])), (a 1, .inl (cy 0, 4, .inl v_eyes)), (a 2, .inl (cy 0, 4, .inl u)), (a 3, .inl (cy 0, 4, .inl v_thoughts))]
set_option maxHeartbeats 4000000 in
set_option maxRecDepth 100000 in
theorem c_T_pay (l : Launch) (D : va_G) (cy : Nat → Nat) (a : Nat → Nat) (sz : Nat) (p1 : Int32) (p2 : Int32) (v_order : Int32) (v_peaCup : Int32) (v_round : Int32) (v_eyes : (Nat → Int32)) (v_coins : (Nat → Int32)) (v_thoughts : (Nat → Int32)) (u : (Nat → Int32)) (h : f_T_pay p1 p2 v_coins = some u) : Met l yX7_pay wsX7_pay rm_T_pay (kk_PW D cy [(a 0, .inr (6, [.int v_order, .int v_peaCup, .int v_round, .ref (a 1), .ref (a 2), .ref (a 3)])), (a 1, .inl (cy 0, 4, .inl v_eyes)), (a 2, .inl (cy 0, 4, .inl v_coins)), (a 3, .inl (cy 0, 4, .inl v_thoughts))] sz [.ref (a 0), .int p1, .int p2]) (kk_Qv D (wo_T_pay cy a v_order v_peaCup v_round v_eyes v_thoughts u) (va_A [(a 0, .inr (6, [.int v_order, .int v_peaCup, .int v_round, .ref (a 1), .ref (a 2), .ref (a 3)])), (a 1, .inl (cy 0, 4, .inl v_eyes)), (a 2, .inl (cy 0, 4, .inl v_coins)), (a 3, .inl (cy 0, 4, .inl v_thoughts))] sz)) 0 0 (va_A [(a 0, .inr (6, [.int v_order, .int v_peaCup, .int v_round, .ref (a 1), .ref (a 2), .ref (a 3)])), (a 1, .inl (cy 0, 4, .inl v_eyes)), (a 2, .inl (cy 0, 4, .inl v_coins)), (a 3, .inl (cy 0, 4, .inl v_thoughts))] sz) := by
  refine kk_met (cc := cX7_pay) (maxL := 3) (ret := none) (by decide) rfl (Nat.le_of_ble_eq_true rfl) ?_
  intro p e s m below meth c hx hb hr hml hts hown hlocks hB ls hl Q hQ
  obtain ⟨hsz, hP, hE, hD0⟩ := hB
  subst hsz
  have hD := hD0.self (sz := s.heap.size)
  generalize hAe : va_A [(a 0, .inr (6, [.int v_order, .int v_peaCup, .int v_round, .ref (a 1), .ref (a 2), .ref (a 3)])), (a 1, .inl (cy 0, 4, .inl v_eyes)), (a 2, .inl (cy 0, 4, .inl v_coins)), (a 3, .inl (cy 0, 4, .inl v_thoughts))] s.heap.size = A at hD hQ
  have hA : ∀ q : Nat, s.heap.size ≤ q → A q := fun q h => by rw [← hAe]; exact Or.inr h
  have hS : va_S A s.heap s.heap [] := va_S.rf
  have hown : s.vm.findClass RX7 = some m.cls := hown
  have hl : lv_has ls 3 [(0, .ref (a 0)), (1, .int p1), (2, .int p2)] := hl
  unfold f_T_pay at h
  refine lv_iload_n hx hb dX7_pay_0 rfl (lv_at hl 1 rfl) ?_
  obtain ⟨u_1, h_1, h⟩ := kk_b h
  refine kk_si (va_runSN (As := [.int p1]) (rest := []) ⟨hx, hb, hml, hown, hts⟩ (c_C_isWatcher l p1 u_1 h_1) ⟨va_cnB 1 hts ggX7_pay_X9_isWatcher rfl rfl rfl (hE.2 _ (List.mem_of_getElem? (i := 12) rfl)) (hts (.initialized RX9) (List.mem_of_getElem? (i := 7) rfl)) nd_C_isWatcher ⟨Nat.le_of_ble_eq_true rfl, Nat.le_of_ble_eq_true rfl⟩, (hts (.static yX9_isWatcher) (List.mem_of_getElem? (i := 6) rfl)), trivial⟩ (kk_preS hE.2) rfl rfl hl.1 rfl (lv_room (Nat.le_of_ble_eq_true rfl)) dX7_pay_1 ⟨Nat.zero_le _, Nat.zero_le _⟩) ?_
  refine lv_if_eq (tgt := 27) hx hb dX7_pay_4 (by decide) (fun c_4 => ?_) (fun c_4 => ?_)
  · have h := kk_t c_4 h
    exact kk_rwv (wf := wo_T_pay cy a v_order v_peaCup v_round v_eyes v_thoughts) hx hb hr hlocks h hQ hP hD hS dX7_pay_27
  · have h := kk_f c_4 h
    refine lv_aload_n hx hb dX7_pay_7 rfl (lv_at hl 0 rfl) ?_
    refine va_get (D := D) (ci := 6) (v := .ref (a 2)) (C := RX7) (T := TX7) (N := 6) hx hb hts (fun _ h9 => List.mem_cons_of_mem _ (List.mem_append_right _ h9)) hown hE.1 hP 0 rfl rfl 4 (by decide) (hts (.fieldLink RX7 28 "PeaCups$Table" "coins" "[I") (List.mem_of_getElem? (i := 1) rfl)) (fun _ h9 => h9) rfl dX7_pay_8 ?_
    refine lv_iload_n hx hb dX7_pay_11 rfl (lv_at hl 1 rfl) ?_
    refine lv_sipush (v := 999) hx hb dX7_pay_12 (by decide) ?_
    refine lv_aload_n hx hb dX7_pay_15 rfl (lv_at hl 0 rfl) ?_
    refine va_get (D := D) (ci := 6) (v := .ref (a 2)) (C := RX7) (T := TX7) (N := 6) hx hb hts (fun _ h9 => List.mem_cons_of_mem _ (List.mem_append_right _ h9)) hown hE.1 hP 0 rfl rfl 4 (by decide) (hts (.fieldLink RX7 28 "PeaCups$Table" "coins" "[I") (List.mem_of_getElem? (i := 1) rfl)) (fun _ h9 => h9) rfl dX7_pay_16 ?_
    refine lv_iload_n hx hb dX7_pay_19 rfl (lv_at hl 1 rfl) ?_
    obtain ⟨i_20, h⟩ := kk_x h
    refine va_iald hx hb hE.1 hP 2 0 rfl rfl i_20 dX7_pay_20 ?_
    refine lv_iload_n hx hb dX7_pay_21 rfl (lv_at hl 2 rfl) ?_
    refine lv_iadd hx hb dX7_pay_22 ?_
    refine va_mmin hx hb (hml.trans hl.1.symm) hown (hts (.methodLink RX7 93 Lib.Math.min.name) (List.mem_of_getElem? (i := 2) rfl)) (hts (.static Lib.Math.min.name) (List.mem_of_getElem? (i := 3) rfl)) (hts (.initialized "java/lang/Math") (List.mem_of_getElem? (i := 4) rfl)) (hts (.code Lib.Math.min.name Lib.Math.min.code 2 (some .int)) (List.mem_of_getElem? (i := 5) rfl)) (Nat.le_of_ble_eq_true rfl) (Nat.le_of_ble_eq_true rfl) (Nat.zero_le _) (Nat.zero_le _) dX7_pay_23 ?_
    obtain ⟨i_26, h⟩ := kk_x h
    refine va_iast hx hb hE.1 hP hD hS 2 0 rfl rfl i_26 dX7_pay_26 (fun H locs hP hD hS => ?_)
    have hP : va_P D vwCl [(a 0, .inr (6, [.int v_order, .int v_peaCup, .int v_round, .ref (a 1), .ref (a 2), .ref (a 3)])), (a 1, .inl (cy 0, 4, .inl v_eyes)), (a 2, .inl (cy 0, 4, .inl (upd v_coins (p1 : Int32).toNatClampNeg (if ((v_coins (p1 : Int32).toNatClampNeg) + p2) < 999 then ((v_coins (p1 : Int32).toNatClampNeg) + p2) else 999)))), (a 3, .inl (cy 0, 4, .inl v_thoughts))] H := hP
    have hD : va_D A [(a 0, .inr (6, [.int v_order, .int v_peaCup, .int v_round, .ref (a 1), .ref (a 2), .ref (a 3)])), (a 1, .inl (cy 0, 4, .inl v_eyes)), (a 2, .inl (cy 0, 4, .inl (upd v_coins (p1 : Int32).toNatClampNeg (if ((v_coins (p1 : Int32).toNatClampNeg) + p2) < 999 then ((v_coins (p1 : Int32).toNatClampNeg) + p2) else 999)))), (a 3, .inl (cy 0, 4, .inl v_thoughts))] := hD
    exact kk_rwv (wf := wo_T_pay cy a v_order v_peaCup v_round v_eyes v_thoughts) hx hb hr hlocks h hQ hP hD hS dX7_pay_27
abbrev rm_T_perform : Room := { frames := 3, cells := 0, slots := 0, locals := 67 }
theorem nv_T_perform : yX7_perform.cls = RX7 ∧ yX7_perform.cls ≠ "java/lang/invoke/MethodHandle" ∧ yX7_perform.cls ≠ "java/lang/invoke/VarHandle" ∧ (parseMethodDescriptor yX7_perform.desc).map (fun d => d.parameters.length) = some 1 := by decide +kernel
abbrev wo_T_perform (cy : Nat → Nat) (a : Nat → Nat) (b : Nat → Nat) (v_eyes : (Nat → Int32)) (o_kind : Int32) (o_place : Int32) (o_otherPlace : Int32) (o_watcher : Int32) (o_number : Int32) (u : Int32 × Int32 × Int32 × (Nat → Int32) × (Nat → Int32)) : va_W := [(a 0, .inr (6, [.int u.1, .int u.2.1, .int u.2.2.1, .ref (a 1), .ref (a 2), .ref (a 3)])), (a 1, .inl (cy 0, 4, .inl v_eyes)), (a 2, .inl (cy 0, 4, .inl u.2.2.2.1)), (a 3, .inl (cy 0, 4, .inl u.2.2.2.2)), (b 0, .inr (0, [.int o_kind, .int o_place, .int o_otherPlace, .int o_watcher, .int o_number]))]
set_option maxHeartbeats 4000000 in
set_option maxRecDepth 100000 in
theorem c_T_perform (l : Launch) (D : va_G) (cy : Nat → Nat) (a b : Nat → Nat) (sz : Nat) (v_order : Int32) (v_peaCup : Int32) (v_round : Int32) (v_eyes : (Nat → Int32)) (v_coins : (Nat → Int32)) (v_thoughts : (Nat → Int32)) (o_kind : Int32) (o_place : Int32) (o_otherPlace : Int32) (o_watcher : Int32) (o_number : Int32) (u : Int32 × Int32 × Int32 × (Nat → Int32) × (Nat → Int32)) (h : f_T_perform v_order v_peaCup v_round v_eyes v_coins v_thoughts o_kind o_place o_otherPlace o_watcher o_number = some u) : Met l yX7_perform wsX7_perform rm_T_perform (kk_PW D cy [(a 0, .inr (6, [.int v_order, .int v_peaCup, .int v_round, .ref (a 1), .ref (a 2), .ref (a 3)])), (a 1, .inl (cy 0, 4, .inl v_eyes)), (a 2, .inl (cy 0, 4, .inl v_coins)), (a 3, .inl (cy 0, 4, .inl v_thoughts)), (b 0, .inr (0, [.int o_kind, .int o_place, .int o_otherPlace, .int o_watcher, .int o_number]))] sz [.ref (a 0), .ref (b 0)]) (kk_Qv D (wo_T_perform cy a b v_eyes o_kind o_place o_otherPlace o_watcher o_number u) (va_A [(a 0, .inr (6, [.int v_order, .int v_peaCup, .int v_round, .ref (a 1), .ref (a 2), .ref (a 3)])), (a 1, .inl (cy 0, 4, .inl v_eyes)), (a 2, .inl (cy 0, 4, .inl v_coins)), (a 3, .inl (cy 0, 4, .inl v_thoughts)), (b 0, .inr (0, [.int o_kind, .int o_place, .int o_otherPlace, .int o_watcher, .int o_number]))] sz)) 0 0 (va_A [(a 0, .inr (6, [.int v_order, .int v_peaCup, .int v_round, .ref (a 1), .ref (a 2), .ref (a 3)])), (a 1, .inl (cy 0, 4, .inl v_eyes)), (a 2, .inl (cy 0, 4, .inl v_coins)), (a 3, .inl (cy 0, 4, .inl v_thoughts)), (b 0, .inr (0, [.int o_kind, .int o_place, .int o_otherPlace, .int o_watcher, .int o_number]))] sz) := by
  refine kk_met (cc := cX7_perform) (maxL := 2) (ret := none) (by decide) rfl (Nat.le_of_ble_eq_true rfl) ?_
  intro p e s m below meth c hx hb hr hml hts hown hlocks hB ls hl Q hQ
  obtain ⟨hsz, hP, hE, hD0⟩ := hB
  subst hsz
  have hD := hD0.self (sz := s.heap.size)
  generalize hAe : va_A [(a 0, .inr (6, [.int v_order, .int v_peaCup, .int v_round, .ref (a 1), .ref (a 2), .ref (a 3)])), (a 1, .inl (cy 0, 4, .inl v_eyes)), (a 2, .inl (cy 0, 4, .inl v_coins)), (a 3, .inl (cy 0, 4, .inl v_thoughts)), (b 0, .inr (0, [.int o_kind, .int o_place, .int o_otherPlace, .int o_watcher, .int o_number]))] s.heap.size = A at hD hQ
  have hA : ∀ q : Nat, s.heap.size ≤ q → A q := fun q h => by rw [← hAe]; exact Or.inr h
  have hS : va_S A s.heap s.heap [] := va_S.rf
  have hown : s.vm.findClass RX7 = some m.cls := hown
  have hl : lv_has ls 2 [(0, .ref (a 0)), (1, .ref (b 0))] := hl
  unfold f_T_perform at h
  have J_121 : ∀ (y1 : Int32) (y2 : Int32) (v_order : Int32) (v_peaCup : Int32) (v_round : Int32) (v_coins : (Nat → Int32)) (v_thoughts : (Nat → Int32)) (H : Heap) (locs : List Loc) (hP : va_P D vwCl [(a 0, .inr (6, [.int v_order, .int v_peaCup, .int v_round, .ref (a 1), .ref (a 2), .ref (a 3)])), (a 1, .inl (cy 0, 4, .inl v_eyes)), (a 2, .inl (cy 0, 4, .inl v_coins)), (a 3, .inl (cy 0, 4, .inl v_thoughts)), (b 0, .inr (0, [.int o_kind, .int o_place, .int o_otherPlace, .int o_watcher, .int o_number]))] H) (hD : va_D A [(a 0, .inr (6, [.int v_order, .int v_peaCup, .int v_round, .ref (a 1), .ref (a 2), .ref (a 3)])), (a 1, .inl (cy 0, 4, .inl v_eyes)), (a 2, .inl (cy 0, 4, .inl v_coins)), (a 3, .inl (cy 0, 4, .inl v_thoughts)), (b 0, .inr (0, [.int o_kind, .int o_place, .int o_otherPlace, .int o_watcher, .int o_number]))]) (hS : va_S A s.heap H locs) (ls : Array Slot) (hl : lv_has ls 2 []) (h : jn_T_perform_121 y1 y2 v_order v_peaCup v_round v_eyes v_coins v_thoughts o_kind o_place o_otherPlace o_watcher o_number = some u), W p l e rm_T_perform s m [.ref (a 0), .ref (b 0)].toArray below meth c H locs 0 0 Q (F0 m 121 ls [.int y2, .int y1, .ref (a 0)]) := by
    intro y1 y2 v_order v_peaCup v_round v_coins v_thoughts H locs hP hD hS ls hl h
    unfold jn_T_perform_121 at h
    obtain ⟨u_121, h_121, h⟩ := kk_b h
    refine kk_wv (wn := [(a 0, .inr (6, [.int v_order, .int v_peaCup, .int v_round, .ref (a 1), .ref (a 2), .ref (a 3)])), (a 1, .inl (cy 0, 4, .inl v_eyes)), (a 2, .inl (cy 0, 4, .inl u_121)), (a 3, .inl (cy 0, 4, .inl v_thoughts)), (b 0, .inr (0, [.int o_kind, .int o_place, .int o_otherPlace, .int o_watcher, .int o_number]))]) (va_runV (As := [.int y1, .int y2]) (rest := []) ⟨hx, hb, hml, hown, hts⟩ (c_T_pay l D cy a _ y1 y2 v_order v_peaCup v_round v_eyes v_coins v_thoughts u_121 h_121) (cwV 2 hts gX7_perform_X7_pay rfl rfl rfl nv_T_pay ⟨Nat.le_of_ble_eq_true rfl, Nat.le_of_ble_eq_true rfl⟩) (kk_preWV hE (hP.sub [0, 1, 2, 3] rfl) (hD.sub [0, 1, 2, 3] (by decide) rfl) (q0 := 0) (ci := 6) rfl rfl) rfl rfl hl.1 rfl (lv_room (Nat.le_of_ble_eq_true rfl)) dX7_perform_121 ⟨Nat.zero_le _, Nat.zero_le _⟩) hP hD hS hA [0, 1, 2, 3] [4] [1, 2, 3, 4, 0] rfl rfl (by decide) (by decide) (by decide) rfl (fun H locs hP hD hS => ?_)
    refine lv_goto (tgt := 137) hx hb dX7_perform_124 (by decide) ?_
    exact kk_rwv (wf := wo_T_perform cy a b v_eyes o_kind o_place o_otherPlace o_watcher o_number) hx hb hr hlocks h hQ hP hD hS dX7_perform_137
  refine lv_aload_n hx hb dX7_perform_0 rfl (lv_at hl 1 rfl) ?_
  refine va_get (D := D) (ci := 0) (v := .int o_kind) (C := RX0) (T := TX0) (N := 5) hx hb hts (fun _ h9 => List.mem_cons_of_mem _ (List.mem_append_left _ (List.mem_append_right _ h9))) hown hE.1 hP 4 rfl rfl 0 (by decide) (hts (.fieldLink RX7 46 "PeaCups$Act" "kind" "I") (List.mem_of_getElem? (i := 1) rfl)) (fun _ h9 => h9) rfl dX7_perform_1 ?_
  by_cases c_4_0 : o_kind = 0
  · have h := kk_t c_4_0 h
    refine lv_tableIn (off := 32) (tgt := 36) hx hb dX7_perform_4 (by rw [c_4_0]; decide) (by rw [c_4_0]; decide) (by rw [c_4_0]; decide) (by decide) ?_
    refine lv_aload_n hx hb dX7_perform_36 rfl (lv_at hl 0 rfl) ?_
    refine lv_aload_n hx hb dX7_perform_37 rfl (lv_at hl 1 rfl) ?_
    refine va_get (D := D) (ci := 0) (v := .int o_place) (C := RX0) (T := TX0) (N := 5) hx hb hts (fun _ h9 => List.mem_cons_of_mem _ (List.mem_append_left _ (List.mem_append_right _ h9))) hown hE.1 hP 4 rfl rfl 1 (by decide) (hts (.fieldLink RX7 51 "PeaCups$Act" "place" "I") (List.mem_of_getElem? (i := 2) rfl)) (fun _ h9 => h9) rfl dX7_perform_38 ?_
    refine lv_aload_n hx hb dX7_perform_41 rfl (lv_at hl 1 rfl) ?_
    refine va_get (D := D) (ci := 0) (v := .int o_otherPlace) (C := RX0) (T := TX0) (N := 5) hx hb hts (fun _ h9 => List.mem_cons_of_mem _ (List.mem_append_left _ (List.mem_append_right _ h9))) hown hE.1 hP 4 rfl rfl 2 (by decide) (hts (.fieldLink RX7 54 "PeaCups$Act" "otherPlace" "I") (List.mem_of_getElem? (i := 3) rfl)) (fun _ h9 => h9) rfl dX7_perform_42 ?_
    refine lv_aload_n hx hb dX7_perform_45 rfl (lv_at hl 1 rfl) ?_
    refine va_get (D := D) (ci := 0) (v := .int o_number) (C := RX0) (T := TX0) (N := 5) hx hb hts (fun _ h9 => List.mem_cons_of_mem _ (List.mem_append_left _ (List.mem_append_right _ h9))) hown hE.1 hP 4 rfl rfl 4 (by decide) (hts (.fieldLink RX7 64 "PeaCups$Act" "number" "I") (List.mem_of_getElem? (i := 4) rfl)) (fun _ h9 => h9) rfl dX7_perform_46 ?_
    obtain ⟨u_49, h_49, h⟩ := kk_b h
    refine kk_wv (wn := [(a 0, .inr (6, [.int u_49.1, .int v_peaCup, .int v_round, .ref (a 1), .ref (a 2), .ref (a 3)])), (a 1, .inl (cy 0, 4, .inl v_eyes)), (a 2, .inl (cy 0, 4, .inl v_coins)), (a 3, .inl (cy 0, 4, .inl u_49.2)), (b 0, .inr (0, [.int o_kind, .int o_place, .int o_otherPlace, .int o_watcher, .int o_number]))]) (va_runV (As := [.int o_place, .int o_otherPlace, .int o_number]) (rest := []) ⟨hx, hb, hml, hown, hts⟩ (c_T_change l D cy a _ o_place o_otherPlace o_number v_order v_peaCup v_round v_eyes v_coins v_thoughts u_49 h_49) (cwV 3 hts gX7_perform_X7_change rfl rfl rfl nv_T_change ⟨Nat.le_of_ble_eq_true rfl, Nat.le_of_ble_eq_true rfl⟩) (kk_preWV hE (hP.sub [0, 1, 2, 3] rfl) (hD.sub [0, 1, 2, 3] (by decide) rfl) (q0 := 0) (ci := 6) rfl rfl) rfl rfl hl.1 rfl (lv_room (Nat.le_of_ble_eq_true rfl)) dX7_perform_49 ⟨Nat.zero_le _, Nat.zero_le _⟩) hP hD hS hA [0, 1, 2, 3] [4] [1, 2, 3, 4, 0] rfl rfl (by decide) (by decide) (by decide) rfl (fun H locs hP hD hS => ?_)
    refine lv_goto (tgt := 137) hx hb dX7_perform_52 (by decide) ?_
    exact kk_rwv (wf := wo_T_perform cy a b v_eyes o_kind o_place o_otherPlace o_watcher o_number) hx hb hr hlocks h hQ hP hD hS dX7_perform_137
  · have h := kk_f c_4_0 h
    by_cases c_4_1 : o_kind = 1
    · have h := kk_t c_4_1 h
      refine lv_tableIn (off := 51) (tgt := 55) hx hb dX7_perform_4 (by rw [c_4_1]; decide) (by rw [c_4_1]; decide) (by rw [c_4_1]; decide) (by decide) ?_
      refine lv_aload_n hx hb dX7_perform_55 rfl (lv_at hl 0 rfl) ?_
      refine lv_aload_n hx hb dX7_perform_56 rfl (lv_at hl 1 rfl) ?_
      refine va_get (D := D) (ci := 0) (v := .int o_place) (C := RX0) (T := TX0) (N := 5) hx hb hts (fun _ h9 => List.mem_cons_of_mem _ (List.mem_append_left _ (List.mem_append_right _ h9))) hown hE.1 hP 4 rfl rfl 1 (by decide) (hts (.fieldLink RX7 51 "PeaCups$Act" "place" "I") (List.mem_of_getElem? (i := 2) rfl)) (fun _ h9 => h9) rfl dX7_perform_57 ?_
      obtain ⟨u_60, h_60, h⟩ := kk_b h
      refine kk_wv (wn := [(a 0, .inr (6, [.int v_order, .int v_peaCup, .int v_round, .ref (a 1), .ref (a 2), .ref (a 3)])), (a 1, .inl (cy 0, 4, .inl v_eyes)), (a 2, .inl (cy 0, 4, .inl v_coins)), (a 3, .inl (cy 0, 4, .inl u_60)), (b 0, .inr (0, [.int o_kind, .int o_place, .int o_otherPlace, .int o_watcher, .int o_number]))]) (va_runV (As := [.int o_place]) (rest := []) ⟨hx, hb, hml, hown, hts⟩ (c_T_lift l D cy a _ o_place v_order v_peaCup v_round v_eyes v_coins v_thoughts u_60 h_60) (cwV 1 hts gX7_perform_X7_lift rfl rfl rfl nv_T_lift ⟨Nat.le_of_ble_eq_true rfl, Nat.le_of_ble_eq_true rfl⟩) (kk_preWV hE (hP.sub [0, 1, 2, 3] rfl) (hD.sub [0, 1, 2, 3] (by decide) rfl) (q0 := 0) (ci := 6) rfl rfl) rfl rfl hl.1 rfl (lv_room (Nat.le_of_ble_eq_true rfl)) dX7_perform_60 ⟨Nat.zero_le _, Nat.zero_le _⟩) hP hD hS hA [0, 1, 2, 3] [4] [1, 2, 3, 4, 0] rfl rfl (by decide) (by decide) (by decide) rfl (fun H locs hP hD hS => ?_)
      refine lv_goto (tgt := 137) hx hb dX7_perform_63 (by decide) ?_
      exact kk_rwv (wf := wo_T_perform cy a b v_eyes o_kind o_place o_otherPlace o_watcher o_number) hx hb hr hlocks h hQ hP hD hS dX7_perform_137
    · have h := kk_f c_4_1 h
      by_cases c_4_2 : o_kind = 2
      · have h := kk_t c_4_2 h
        refine lv_tableIn (off := 62) (tgt := 66) hx hb dX7_perform_4 (by rw [c_4_2]; decide) (by rw [c_4_2]; decide) (by rw [c_4_2]; decide) (by decide) ?_
        refine lv_aload_n hx hb dX7_perform_66 rfl (lv_at hl 0 rfl) ?_
        refine lv_aload_n hx hb dX7_perform_67 rfl (lv_at hl 0 rfl) ?_
        refine va_get (D := D) (ci := 6) (v := .int v_peaCup) (C := RX7) (T := TX7) (N := 6) hx hb hts (fun _ h9 => List.mem_cons_of_mem _ (List.mem_append_right _ h9)) hown hE.1 hP 0 rfl rfl 1 (by decide) (hts (.fieldLink RX7 18 "PeaCups$Table" "peaCup" "I") (List.mem_of_getElem? (i := 5) rfl)) (fun _ h9 => h9) rfl dX7_perform_68 ?_
        refine lv_iconst (v := (-1)) hx hb dX7_perform_71 (by decide) ?_
        refine lv_icmp_ne (tgt := 89) hx hb dX7_perform_72 (by decide) (fun c_72 => ?_) (fun c_72 => ?_)
        · have h := kk_f c_72 h
          refine lv_iconst (v := (-1)) hx hb dX7_perform_89 (by decide) ?_
          refine va_put (D := D) (ci := 6) (v := .int (-1)) (ty := .int) (C := RX7) (T := TX7) (N := 6) hx hb hts (fun _ h9 => List.mem_cons_of_mem _ (List.mem_append_right _ h9)) tyX7 tyX7_ok nmX7 hown hE.1 hP hD hS 0 rfl rfl 1 (by decide) (hts (.fieldLink RX7 18 "PeaCups$Table" "peaCup" "I") (List.mem_of_getElem? (i := 5) rfl)) (fun _ h9 => h9) rfl (by decide +kernel) rfl rfl (Nat.le_of_ble_eq_true rfl) dX7_perform_90 (fun H locs hP hD hS => ?_)
          have hP : va_P D vwCl [(a 0, .inr (6, [.int v_order, .int (-1), .int v_round, .ref (a 1), .ref (a 2), .ref (a 3)])), (a 1, .inl (cy 0, 4, .inl v_eyes)), (a 2, .inl (cy 0, 4, .inl v_coins)), (a 3, .inl (cy 0, 4, .inl v_thoughts)), (b 0, .inr (0, [.int o_kind, .int o_place, .int o_otherPlace, .int o_watcher, .int o_number]))] H := hP
          have hD : va_D A [(a 0, .inr (6, [.int v_order, .int (-1), .int v_round, .ref (a 1), .ref (a 2), .ref (a 3)])), (a 1, .inl (cy 0, 4, .inl v_eyes)), (a 2, .inl (cy 0, 4, .inl v_coins)), (a 3, .inl (cy 0, 4, .inl v_thoughts)), (b 0, .inr (0, [.int o_kind, .int o_place, .int o_otherPlace, .int o_watcher, .int o_number]))] := hD
          refine lv_goto (tgt := 137) hx hb dX7_perform_93 (by decide) ?_
          exact kk_rwv (wf := wo_T_perform cy a b v_eyes o_kind o_place o_otherPlace o_watcher o_number) hx hb hr hlocks h hQ hP hD hS dX7_perform_137
        · have h := kk_t c_72 h
          refine lv_aload_n hx hb dX7_perform_75 rfl (lv_at hl 0 rfl) ?_
          refine va_get (D := D) (ci := 6) (v := .int v_order) (C := RX7) (T := TX7) (N := 6) hx hb hts (fun _ h9 => List.mem_cons_of_mem _ (List.mem_append_right _ h9)) hown hE.1 hP 0 rfl rfl 0 (by decide) (hts (.fieldLink RX7 12 "PeaCups$Table" "order" "I") (List.mem_of_getElem? (i := 6) rfl)) (fun _ h9 => h9) rfl dX7_perform_76 ?_
          refine lv_aload_n hx hb dX7_perform_79 rfl (lv_at hl 1 rfl) ?_
          refine va_get (D := D) (ci := 0) (v := .int o_place) (C := RX0) (T := TX0) (N := 5) hx hb hts (fun _ h9 => List.mem_cons_of_mem _ (List.mem_append_left _ (List.mem_append_right _ h9))) hown hE.1 hP 4 rfl rfl 1 (by decide) (hts (.fieldLink RX7 51 "PeaCups$Act" "place" "I") (List.mem_of_getElem? (i := 2) rfl)) (fun _ h9 => h9) rfl dX7_perform_80 ?_
          obtain ⟨u_83, h_83, h⟩ := kk_b h
          refine kk_si (va_runS (As := [.int v_order, .int o_place]) (rest := [.ref (a 0)]) ⟨hx, hb, hml, hown, hts⟩ (c_O_cupOn l v_order o_place u_83 h_83) (va_cwS 2 hts gX7_perform_X2_cupOn rfl rfl rfl nd_O_cupOn ⟨Nat.le_of_ble_eq_true rfl, Nat.le_of_ble_eq_true rfl⟩) (kk_preS hE.2) rfl rfl hl.1 rfl (lv_room (Nat.le_of_ble_eq_true rfl)) dX7_perform_83 ⟨Nat.zero_le _, Nat.zero_le _⟩) ?_
          refine lv_goto (tgt := 90) hx hb dX7_perform_86 (by decide) ?_
          refine va_put (D := D) (ci := 6) (v := .int u_83) (ty := .int) (C := RX7) (T := TX7) (N := 6) hx hb hts (fun _ h9 => List.mem_cons_of_mem _ (List.mem_append_right _ h9)) tyX7 tyX7_ok nmX7 hown hE.1 hP hD hS 0 rfl rfl 1 (by decide) (hts (.fieldLink RX7 18 "PeaCups$Table" "peaCup" "I") (List.mem_of_getElem? (i := 5) rfl)) (fun _ h9 => h9) rfl (by decide +kernel) rfl rfl (Nat.le_of_ble_eq_true rfl) dX7_perform_90 (fun H locs hP hD hS => ?_)
          have hP : va_P D vwCl [(a 0, .inr (6, [.int v_order, .int u_83, .int v_round, .ref (a 1), .ref (a 2), .ref (a 3)])), (a 1, .inl (cy 0, 4, .inl v_eyes)), (a 2, .inl (cy 0, 4, .inl v_coins)), (a 3, .inl (cy 0, 4, .inl v_thoughts)), (b 0, .inr (0, [.int o_kind, .int o_place, .int o_otherPlace, .int o_watcher, .int o_number]))] H := hP
          have hD : va_D A [(a 0, .inr (6, [.int v_order, .int u_83, .int v_round, .ref (a 1), .ref (a 2), .ref (a 3)])), (a 1, .inl (cy 0, 4, .inl v_eyes)), (a 2, .inl (cy 0, 4, .inl v_coins)), (a 3, .inl (cy 0, 4, .inl v_thoughts)), (b 0, .inr (0, [.int o_kind, .int o_place, .int o_otherPlace, .int o_watcher, .int o_number]))] := hD
          refine lv_goto (tgt := 137) hx hb dX7_perform_93 (by decide) ?_
          exact kk_rwv (wf := wo_T_perform cy a b v_eyes o_kind o_place o_otherPlace o_watcher o_number) hx hb hr hlocks h hQ hP hD hS dX7_perform_137
      · have h := kk_f c_4_2 h
        by_cases c_4_3 : o_kind = 3
        · have h := kk_t c_4_3 h
          refine lv_tableIn (off := 92) (tgt := 96) hx hb dX7_perform_4 (by rw [c_4_3]; decide) (by rw [c_4_3]; decide) (by rw [c_4_3]; decide) (by decide) ?_
          refine lv_aload_n hx hb dX7_perform_96 rfl (lv_at hl 0 rfl) ?_
          refine lv_aload_n hx hb dX7_perform_97 rfl (lv_at hl 1 rfl) ?_
          refine va_get (D := D) (ci := 0) (v := .int o_watcher) (C := RX0) (T := TX0) (N := 5) hx hb hts (fun _ h9 => List.mem_cons_of_mem _ (List.mem_append_left _ (List.mem_append_right _ h9))) hown hE.1 hP 4 rfl rfl 3 (by decide) (hts (.fieldLink RX7 57 "PeaCups$Act" "watcher" "I") (List.mem_of_getElem? (i := 7) rfl)) (fun _ h9 => h9) rfl dX7_perform_98 ?_
          refine lv_aload_n hx hb dX7_perform_101 rfl (lv_at hl 0 rfl) ?_
          refine lv_aload_n hx hb dX7_perform_102 rfl (lv_at hl 1 rfl) ?_
          obtain ⟨u_103, h_103, h⟩ := kk_b h
          refine kk_si (va_runV (As := [.ref (b 0)]) (rest := [.int o_watcher, .ref (a 0)]) ⟨hx, hb, hml, hown, hts⟩ (c_T_isWon l D cy a b v_order v_peaCup v_round v_eyes v_coins v_thoughts o_kind o_place o_otherPlace o_watcher o_number u_103 h_103) (cwV 1 hts gX7_perform_X7_isWon rfl rfl rfl nv_T_isWon ⟨Nat.le_of_ble_eq_true rfl, Nat.le_of_ble_eq_true rfl⟩) (kk_preRV hE (hP.sub [0, 1, 2, 3, 4] rfl) (q0 := 0) (ci := 6) rfl rfl) rfl rfl hl.1 rfl (lv_room (Nat.le_of_ble_eq_true rfl)) dX7_perform_103 ⟨Nat.zero_le _, Nat.zero_le _⟩) ?_
          refine lv_if_eq (tgt := 116) hx hb dX7_perform_106 (by decide) (fun c_106 => ?_) (fun c_106 => ?_)
          · have h := kk_t c_106 h
            refine lv_aload_n hx hb dX7_perform_116 rfl (lv_at hl 1 rfl) ?_
            refine va_get (D := D) (ci := 0) (v := .int o_number) (C := RX0) (T := TX0) (N := 5) hx hb hts (fun _ h9 => List.mem_cons_of_mem _ (List.mem_append_left _ (List.mem_append_right _ h9))) hown hE.1 hP 4 rfl rfl 4 (by decide) (hts (.fieldLink RX7 64 "PeaCups$Act" "number" "I") (List.mem_of_getElem? (i := 4) rfl)) (fun _ h9 => h9) rfl dX7_perform_117 ?_
            refine lv_ineg hx hb dX7_perform_120 ?_
            exact J_121 o_watcher (-o_number) v_order v_peaCup v_round v_coins v_thoughts _ _ hP hD hS _ (lv_sub hl [] rfl) h
          · have h := kk_f c_106 h
            refine lv_aload_n hx hb dX7_perform_109 rfl (lv_at hl 1 rfl) ?_
            refine va_get (D := D) (ci := 0) (v := .int o_number) (C := RX0) (T := TX0) (N := 5) hx hb hts (fun _ h9 => List.mem_cons_of_mem _ (List.mem_append_left _ (List.mem_append_right _ h9))) hown hE.1 hP 4 rfl rfl 4 (by decide) (hts (.fieldLink RX7 64 "PeaCups$Act" "number" "I") (List.mem_of_getElem? (i := 4) rfl)) (fun _ h9 => h9) rfl dX7_perform_110 ?_
            refine lv_goto (tgt := 121) hx hb dX7_perform_113 (by decide) ?_
            exact J_121 o_watcher o_number v_order v_peaCup v_round v_coins v_thoughts _ _ hP hD hS _ (lv_sub hl [] rfl) h
        · have h := kk_f c_4_3 h
          refine lv_tableOut (tgt := 127) hx hb dX7_perform_4 (by have := lv_neT (a := 0) c_4_0 (by decide); have := lv_neT (a := 1) c_4_1 (by decide); have := lv_neT (a := 2) c_4_2 (by decide); have := lv_neT (a := 3) c_4_3 (by decide); omega) (by decide) ?_
          refine lv_aload_n hx hb dX7_perform_127 rfl (lv_at hl 0 rfl) ?_
          refine lv_dup hx hb dX7_perform_128 rfl ?_
          refine va_get (D := D) (ci := 6) (v := .int v_round) (C := RX7) (T := TX7) (N := 6) hx hb hts (fun _ h9 => List.mem_cons_of_mem _ (List.mem_append_right _ h9)) hown hE.1 hP 0 rfl rfl 2 (by decide) (hts (.fieldLink RX7 21 "PeaCups$Table" "round" "I") (List.mem_of_getElem? (i := 8) rfl)) (fun _ h9 => h9) rfl dX7_perform_129 ?_
          refine lv_iconst (v := 1) hx hb dX7_perform_132 (by decide) ?_
          refine lv_iadd hx hb dX7_perform_133 ?_
          refine va_put (D := D) (ci := 6) (v := .int (v_round + 1)) (ty := .int) (C := RX7) (T := TX7) (N := 6) hx hb hts (fun _ h9 => List.mem_cons_of_mem _ (List.mem_append_right _ h9)) tyX7 tyX7_ok nmX7 hown hE.1 hP hD hS 0 rfl rfl 2 (by decide) (hts (.fieldLink RX7 21 "PeaCups$Table" "round" "I") (List.mem_of_getElem? (i := 8) rfl)) (fun _ h9 => h9) rfl (by decide +kernel) rfl rfl (Nat.le_of_ble_eq_true rfl) dX7_perform_134 (fun H locs hP hD hS => ?_)
          have hP : va_P D vwCl [(a 0, .inr (6, [.int v_order, .int v_peaCup, .int (v_round + 1), .ref (a 1), .ref (a 2), .ref (a 3)])), (a 1, .inl (cy 0, 4, .inl v_eyes)), (a 2, .inl (cy 0, 4, .inl v_coins)), (a 3, .inl (cy 0, 4, .inl v_thoughts)), (b 0, .inr (0, [.int o_kind, .int o_place, .int o_otherPlace, .int o_watcher, .int o_number]))] H := hP
          have hD : va_D A [(a 0, .inr (6, [.int v_order, .int v_peaCup, .int (v_round + 1), .ref (a 1), .ref (a 2), .ref (a 3)])), (a 1, .inl (cy 0, 4, .inl v_eyes)), (a 2, .inl (cy 0, 4, .inl v_coins)), (a 3, .inl (cy 0, 4, .inl v_thoughts)), (b 0, .inr (0, [.int o_kind, .int o_place, .int o_otherPlace, .int o_watcher, .int o_number]))] := hD
          exact kk_rwv (wf := wo_T_perform cy a b v_eyes o_kind o_place o_otherPlace o_watcher o_number) hx hb hr hlocks h hQ hP hD hS dX7_perform_137
abbrev rm_T_thinksOf : Room := { frames := 1, cells := 0, slots := 0, locals := 20 }
theorem nv_T_thinksOf : yX7_thinksOf.cls = RX7 ∧ yX7_thinksOf.cls ≠ "java/lang/invoke/MethodHandle" ∧ yX7_thinksOf.cls ≠ "java/lang/invoke/VarHandle" ∧ (parseMethodDescriptor yX7_thinksOf.desc).map (fun d => d.parameters.length) = some 1 := by decide +kernel
set_option maxHeartbeats 4000000 in
set_option maxRecDepth 100000 in
theorem c_T_thinksOf (l : Launch) (D : va_G) (cy : Nat → Nat) (a : Nat → Nat) (p1 : Int32) (v_order : Int32) (v_peaCup : Int32) (v_round : Int32) (v_eyes : (Nat → Int32)) (v_coins : (Nat → Int32)) (v_thoughts : (Nat → Int32)) (u : Int32) (h : f_T_thinksOf p1 v_thoughts = some u) : Met l yX7_thinksOf wsX7_thinksOf rm_T_thinksOf (kk_PR D cy [(a 0, .inr (6, [.int v_order, .int v_peaCup, .int v_round, .ref (a 1), .ref (a 2), .ref (a 3)])), (a 1, .inl (cy 0, 4, .inl v_eyes)), (a 2, .inl (cy 0, 4, .inl v_coins)), (a 3, .inl (cy 0, 4, .inl v_thoughts))] [.ref (a 0), .int p1]) (vp_Si (fun r => r = u)) 0 0 (fun _ => False) := by
  refine kk_met (cc := cX7_thinksOf) (maxL := 2) (ret := some .int) (by decide) rfl (Nat.le_of_ble_eq_true rfl) ?_
  intro p e s m below meth c hx hb hr hml hts hown hlocks hB ls hl Q hQ
  obtain ⟨hP, hE⟩ := hB
  have hown : s.vm.findClass RX7 = some m.cls := hown
  have hl : lv_has ls 2 [(0, .ref (a 0)), (1, .int p1)] := hl
  unfold f_T_thinksOf at h
  refine lv_iload_n hx hb dX7_thinksOf_0 rfl (lv_at hl 1 rfl) ?_
  obtain ⟨u_1, h_1, h⟩ := kk_b h
  refine kk_si (va_runSN (As := [.int p1]) (rest := []) ⟨hx, hb, hml, hown, hts⟩ (c_C_isWatcher l p1 u_1 h_1) ⟨va_cnB 1 hts ggX7_thinksOf_X9_isWatcher rfl rfl rfl (hE.2 _ (List.mem_of_getElem? (i := 12) rfl)) (hts (.initialized RX9) (List.mem_of_getElem? (i := 3) rfl)) nd_C_isWatcher ⟨Nat.le_of_ble_eq_true rfl, Nat.le_of_ble_eq_true rfl⟩, (hts (.static yX9_isWatcher) (List.mem_of_getElem? (i := 2) rfl)), trivial⟩ (kk_preS hE.2) rfl rfl hl.1 rfl (lv_room (Nat.le_of_ble_eq_true rfl)) dX7_thinksOf_1 ⟨Nat.zero_le _, Nat.zero_le _⟩) ?_
  refine lv_if_eq (tgt := 16) hx hb dX7_thinksOf_4 (by decide) (fun c_4 => ?_) (fun c_4 => ?_)
  · have h := kk_t c_4 h
    refine lv_iconst (v := 0) hx hb dX7_thinksOf_16 (by decide) ?_
    exact kk_ri hx hb hr hlocks hQ h dX7_thinksOf_17
  · have h := kk_f c_4 h
    refine lv_aload_n hx hb dX7_thinksOf_7 rfl (lv_at hl 0 rfl) ?_
    refine va_get (D := D) (ci := 6) (v := .ref (a 3)) (C := RX7) (T := TX7) (N := 6) hx hb hts (fun _ h9 => List.mem_cons_of_mem _ (List.mem_append_right _ h9)) hown hE.1 hP 0 rfl rfl 5 (by decide) (hts (.fieldLink RX7 31 "PeaCups$Table" "thoughts" "[I") (List.mem_of_getElem? (i := 1) rfl)) (fun _ h9 => h9) rfl dX7_thinksOf_8 ?_
    refine lv_iload_n hx hb dX7_thinksOf_11 rfl (lv_at hl 1 rfl) ?_
    obtain ⟨i_12, h⟩ := kk_x h
    refine va_iald hx hb hE.1 hP 3 0 rfl rfl i_12 dX7_thinksOf_12 ?_
    refine lv_goto (tgt := 17) hx hb dX7_thinksOf_13 (by decide) ?_
    exact kk_ri hx hb hr hlocks hQ h dX7_thinksOf_17
abbrev rm_T_peaCupOrNone : Room := { frames := 0, cells := 0, slots := 0, locals := 0 }
theorem nv_T_peaCupOrNone : yX7_peaCupOrNone.cls = RX7 ∧ yX7_peaCupOrNone.cls ≠ "java/lang/invoke/MethodHandle" ∧ yX7_peaCupOrNone.cls ≠ "java/lang/invoke/VarHandle" ∧ (parseMethodDescriptor yX7_peaCupOrNone.desc).map (fun d => d.parameters.length) = some 0 := by decide +kernel
set_option maxHeartbeats 4000000 in
set_option maxRecDepth 100000 in
theorem c_T_peaCupOrNone (l : Launch) (D : va_G) (cy : Nat → Nat) (a : Nat → Nat) (v_order : Int32) (v_peaCup : Int32) (v_round : Int32) (v_eyes : (Nat → Int32)) (v_coins : (Nat → Int32)) (v_thoughts : (Nat → Int32)) (u : Int32) (h : f_T_peaCupOrNone v_peaCup = some u) : Met l yX7_peaCupOrNone wsX7_peaCupOrNone rm_T_peaCupOrNone (kk_PR D cy [(a 0, .inr (6, [.int v_order, .int v_peaCup, .int v_round, .ref (a 1), .ref (a 2), .ref (a 3)])), (a 1, .inl (cy 0, 4, .inl v_eyes)), (a 2, .inl (cy 0, 4, .inl v_coins)), (a 3, .inl (cy 0, 4, .inl v_thoughts))] [.ref (a 0)]) (vp_Si (fun r => r = u)) 0 0 (fun _ => False) := by
  refine kk_met (cc := cX7_peaCupOrNone) (maxL := 1) (ret := some .int) (by decide) rfl (Nat.le_of_ble_eq_true rfl) ?_
  intro p e s m below meth c hx hb hr hml hts hown hlocks hB ls hl Q hQ
  obtain ⟨hP, hE⟩ := hB
  have hown : s.vm.findClass RX7 = some m.cls := hown
  have hl : lv_has ls 1 [(0, .ref (a 0))] := hl
  unfold f_T_peaCupOrNone at h
  refine lv_aload_n hx hb dX7_peaCupOrNone_0 rfl (lv_at hl 0 rfl) ?_
  refine va_get (D := D) (ci := 6) (v := .int v_peaCup) (C := RX7) (T := TX7) (N := 6) hx hb hts (fun _ h9 => List.mem_cons_of_mem _ (List.mem_append_right _ h9)) hown hE.1 hP 0 rfl rfl 1 (by decide) (hts (.fieldLink RX7 18 "PeaCups$Table" "peaCup" "I") (List.mem_of_getElem? (i := 1) rfl)) (fun _ h9 => h9) rfl dX7_peaCupOrNone_1 ?_
  refine lv_iconst (v := (-1)) hx hb dX7_peaCupOrNone_4 (by decide) ?_
  refine lv_icmp_ne (tgt := 13) hx hb dX7_peaCupOrNone_5 (by decide) (fun c_5 => ?_) (fun c_5 => ?_)
  · have h := kk_f c_5 h
    refine lv_aload_n hx hb dX7_peaCupOrNone_13 rfl (lv_at hl 0 rfl) ?_
    refine va_get (D := D) (ci := 6) (v := .int v_peaCup) (C := RX7) (T := TX7) (N := 6) hx hb hts (fun _ h9 => List.mem_cons_of_mem _ (List.mem_append_right _ h9)) hown hE.1 hP 0 rfl rfl 1 (by decide) (hts (.fieldLink RX7 18 "PeaCups$Table" "peaCup" "I") (List.mem_of_getElem? (i := 1) rfl)) (fun _ h9 => h9) rfl dX7_peaCupOrNone_14 ?_
    exact kk_ri hx hb hr hlocks hQ h dX7_peaCupOrNone_17
  · have h := kk_t c_5 h
    refine lv_bipush (v := (-6)) hx hb dX7_peaCupOrNone_8 (by decide) ?_
    refine lv_goto (tgt := 17) hx hb dX7_peaCupOrNone_10 (by decide) ?_
    exact kk_ri hx hb hr hlocks hQ h dX7_peaCupOrNone_17
abbrev rm_T_eyesOf : Room := { frames := 1, cells := 0, slots := 0, locals := 20 }
theorem nv_T_eyesOf : yX7_eyesOf.cls = RX7 ∧ yX7_eyesOf.cls ≠ "java/lang/invoke/MethodHandle" ∧ yX7_eyesOf.cls ≠ "java/lang/invoke/VarHandle" ∧ (parseMethodDescriptor yX7_eyesOf.desc).map (fun d => d.parameters.length) = some 1 := by decide +kernel
set_option maxHeartbeats 4000000 in
set_option maxRecDepth 100000 in
theorem c_T_eyesOf (l : Launch) (D : va_G) (cy : Nat → Nat) (a : Nat → Nat) (p1 : Int32) (v_order : Int32) (v_peaCup : Int32) (v_round : Int32) (v_eyes : (Nat → Int32)) (v_coins : (Nat → Int32)) (v_thoughts : (Nat → Int32)) (u : Int32) (h : f_T_eyesOf p1 v_eyes = some u) : Met l yX7_eyesOf wsX7_eyesOf rm_T_eyesOf (kk_PR D cy [(a 0, .inr (6, [.int v_order, .int v_peaCup, .int v_round, .ref (a 1), .ref (a 2), .ref (a 3)])), (a 1, .inl (cy 0, 4, .inl v_eyes)), (a 2, .inl (cy 0, 4, .inl v_coins)), (a 3, .inl (cy 0, 4, .inl v_thoughts))] [.ref (a 0), .int p1]) (vp_Si (fun r => r = u)) 0 0 (fun _ => False) := by
  refine kk_met (cc := cX7_eyesOf) (maxL := 2) (ret := some .int) (by decide) rfl (Nat.le_of_ble_eq_true rfl) ?_
  intro p e s m below meth c hx hb hr hml hts hown hlocks hB ls hl Q hQ
  obtain ⟨hP, hE⟩ := hB
  have hown : s.vm.findClass RX7 = some m.cls := hown
  have hl : lv_has ls 2 [(0, .ref (a 0)), (1, .int p1)] := hl
  unfold f_T_eyesOf at h
  refine lv_iload_n hx hb dX7_eyesOf_0 rfl (lv_at hl 1 rfl) ?_
  obtain ⟨u_1, h_1, h⟩ := kk_b h
  refine kk_si (va_runSN (As := [.int p1]) (rest := []) ⟨hx, hb, hml, hown, hts⟩ (c_C_isWatcher l p1 u_1 h_1) ⟨va_cnB 1 hts ggX7_eyesOf_X9_isWatcher rfl rfl rfl (hE.2 _ (List.mem_of_getElem? (i := 12) rfl)) (hts (.initialized RX9) (List.mem_of_getElem? (i := 3) rfl)) nd_C_isWatcher ⟨Nat.le_of_ble_eq_true rfl, Nat.le_of_ble_eq_true rfl⟩, (hts (.static yX9_isWatcher) (List.mem_of_getElem? (i := 2) rfl)), trivial⟩ (kk_preS hE.2) rfl rfl hl.1 rfl (lv_room (Nat.le_of_ble_eq_true rfl)) dX7_eyesOf_1 ⟨Nat.zero_le _, Nat.zero_le _⟩) ?_
  refine lv_if_eq (tgt := 16) hx hb dX7_eyesOf_4 (by decide) (fun c_4 => ?_) (fun c_4 => ?_)
  · have h := kk_t c_4 h
    refine lv_iconst (v := 0) hx hb dX7_eyesOf_16 (by decide) ?_
    exact kk_ri hx hb hr hlocks hQ h dX7_eyesOf_17
  · have h := kk_f c_4 h
    refine lv_aload_n hx hb dX7_eyesOf_7 rfl (lv_at hl 0 rfl) ?_
    refine va_get (D := D) (ci := 6) (v := .ref (a 1)) (C := RX7) (T := TX7) (N := 6) hx hb hts (fun _ h9 => List.mem_cons_of_mem _ (List.mem_append_right _ h9)) hown hE.1 hP 0 rfl rfl 3 (by decide) (hts (.fieldLink RX7 24 "PeaCups$Table" "eyes" "[I") (List.mem_of_getElem? (i := 1) rfl)) (fun _ h9 => h9) rfl dX7_eyesOf_8 ?_
    refine lv_iload_n hx hb dX7_eyesOf_11 rfl (lv_at hl 1 rfl) ?_
    obtain ⟨i_12, h⟩ := kk_x h
    refine va_iald hx hb hE.1 hP 1 0 rfl rfl i_12 dX7_eyesOf_12 ?_
    refine lv_goto (tgt := 17) hx hb dX7_eyesOf_13 (by decide) ?_
    exact kk_ri hx hb hr hlocks hQ h dX7_eyesOf_17
abbrev rm_T_setWatcher : Room := { frames := 1, cells := 0, slots := 0, locals := 20 }
theorem nv_T_setWatcher : yX7_setWatcher.cls = RX7 ∧ yX7_setWatcher.cls ≠ "java/lang/invoke/MethodHandle" ∧ yX7_setWatcher.cls ≠ "java/lang/invoke/VarHandle" ∧ (parseMethodDescriptor yX7_setWatcher.desc).map (fun d => d.parameters.length) = some 4 := by decide +kernel
abbrev wo_T_setWatcher (cy : Nat → Nat) (a : Nat → Nat) (v_order : Int32) (v_peaCup : Int32) (v_round : Int32) (u : (Nat → Int32) × (Nat → Int32) × (Nat → Int32)) : va_W := [(a 0, .inr (6, [.int v_order, .int v_peaCup, .int v_round, .ref (a 1), .ref (a 2), .ref (a 3)])), (a 1, .inl (cy 0, 4, .inl u.1)), (a 2, .inl (cy 0, 4, .inl u.2.1)), (a 3, .inl (cy 0, 4, .inl u.2.2))]
set_option maxHeartbeats 4000000 in
set_option maxRecDepth 100000 in
theorem c_T_setWatcher (l : Launch) (D : va_G) (cy : Nat → Nat) (a : Nat → Nat) (sz : Nat) (p1 : Int32) (p2 : Int32) (p3 : Int32) (p4 : Int32) (v_order : Int32) (v_peaCup : Int32) (v_round : Int32) (v_eyes : (Nat → Int32)) (v_coins : (Nat → Int32)) (v_thoughts : (Nat → Int32)) (u : (Nat → Int32) × (Nat → Int32) × (Nat → Int32)) (h : f_T_setWatcher p1 p2 p3 p4 v_eyes v_coins v_thoughts = some u) : Met l yX7_setWatcher wsX7_setWatcher rm_T_setWatcher (kk_PW D cy [(a 0, .inr (6, [.int v_order, .int v_peaCup, .int v_round, .ref (a 1), .ref (a 2), .ref (a 3)])), (a 1, .inl (cy 0, 4, .inl v_eyes)), (a 2, .inl (cy 0, 4, .inl v_coins)), (a 3, .inl (cy 0, 4, .inl v_thoughts))] sz [.ref (a 0), .int p1, .int p2, .int p3, .int p4]) (kk_Qv D (wo_T_setWatcher cy a v_order v_peaCup v_round u) (va_A [(a 0, .inr (6, [.int v_order, .int v_peaCup, .int v_round, .ref (a 1), .ref (a 2), .ref (a 3)])), (a 1, .inl (cy 0, 4, .inl v_eyes)), (a 2, .inl (cy 0, 4, .inl v_coins)), (a 3, .inl (cy 0, 4, .inl v_thoughts))] sz)) 0 0 (va_A [(a 0, .inr (6, [.int v_order, .int v_peaCup, .int v_round, .ref (a 1), .ref (a 2), .ref (a 3)])), (a 1, .inl (cy 0, 4, .inl v_eyes)), (a 2, .inl (cy 0, 4, .inl v_coins)), (a 3, .inl (cy 0, 4, .inl v_thoughts))] sz) := by
  refine kk_met (cc := cX7_setWatcher) (maxL := 5) (ret := none) (by decide) rfl (Nat.le_of_ble_eq_true rfl) ?_
  intro p e s m below meth c hx hb hr hml hts hown hlocks hB ls hl Q hQ
  obtain ⟨hsz, hP, hE, hD0⟩ := hB
  subst hsz
  have hD := hD0.self (sz := s.heap.size)
  generalize hAe : va_A [(a 0, .inr (6, [.int v_order, .int v_peaCup, .int v_round, .ref (a 1), .ref (a 2), .ref (a 3)])), (a 1, .inl (cy 0, 4, .inl v_eyes)), (a 2, .inl (cy 0, 4, .inl v_coins)), (a 3, .inl (cy 0, 4, .inl v_thoughts))] s.heap.size = A at hD hQ
  have hA : ∀ q : Nat, s.heap.size ≤ q → A q := fun q h => by rw [← hAe]; exact Or.inr h
  have hS : va_S A s.heap s.heap [] := va_S.rf
  have hown : s.vm.findClass RX7 = some m.cls := hown
  have hl : lv_has ls 5 [(0, .ref (a 0)), (1, .int p1), (2, .int p2), (3, .int p3), (4, .int p4)] := hl
  unfold f_T_setWatcher at h
  refine lv_iload_n hx hb dX7_setWatcher_0 rfl (lv_at hl 1 rfl) ?_
  obtain ⟨u_1, h_1, h⟩ := kk_b h
  refine kk_si (va_runSN (As := [.int p1]) (rest := []) ⟨hx, hb, hml, hown, hts⟩ (c_C_isWatcher l p1 u_1 h_1) ⟨va_cnB 1 hts ggX7_setWatcher_X9_isWatcher rfl rfl rfl (hE.2 _ (List.mem_of_getElem? (i := 12) rfl)) (hts (.initialized RX9) (List.mem_of_getElem? (i := 5) rfl)) nd_C_isWatcher ⟨Nat.le_of_ble_eq_true rfl, Nat.le_of_ble_eq_true rfl⟩, (hts (.static yX9_isWatcher) (List.mem_of_getElem? (i := 4) rfl)), trivial⟩ (kk_preS hE.2) rfl rfl hl.1 rfl (lv_room (Nat.le_of_ble_eq_true rfl)) dX7_setWatcher_1 ⟨Nat.zero_le _, Nat.zero_le _⟩) ?_
  refine lv_if_eq (tgt := 29) hx hb dX7_setWatcher_4 (by decide) (fun c_4 => ?_) (fun c_4 => ?_)
  · have h := kk_t c_4 h
    exact kk_rwv (wf := wo_T_setWatcher cy a v_order v_peaCup v_round) hx hb hr hlocks h hQ hP hD hS dX7_setWatcher_29
  · have h := kk_f c_4 h
    refine lv_aload_n hx hb dX7_setWatcher_7 rfl (lv_at hl 0 rfl) ?_
    refine va_get (D := D) (ci := 6) (v := .ref (a 1)) (C := RX7) (T := TX7) (N := 6) hx hb hts (fun _ h9 => List.mem_cons_of_mem _ (List.mem_append_right _ h9)) hown hE.1 hP 0 rfl rfl 3 (by decide) (hts (.fieldLink RX7 24 "PeaCups$Table" "eyes" "[I") (List.mem_of_getElem? (i := 1) rfl)) (fun _ h9 => h9) rfl dX7_setWatcher_8 ?_
    refine lv_iload_n hx hb dX7_setWatcher_11 rfl (lv_at hl 1 rfl) ?_
    refine lv_iload_n hx hb dX7_setWatcher_12 rfl (lv_at hl 2 rfl) ?_
    obtain ⟨i_13, h⟩ := kk_x h
    refine va_iast hx hb hE.1 hP hD hS 1 0 rfl rfl i_13 dX7_setWatcher_13 (fun H locs hP hD hS => ?_)
    have hP : va_P D vwCl [(a 0, .inr (6, [.int v_order, .int v_peaCup, .int v_round, .ref (a 1), .ref (a 2), .ref (a 3)])), (a 1, .inl (cy 0, 4, .inl (upd v_eyes (p1 : Int32).toNatClampNeg p2))), (a 2, .inl (cy 0, 4, .inl v_coins)), (a 3, .inl (cy 0, 4, .inl v_thoughts))] H := hP
    have hD : va_D A [(a 0, .inr (6, [.int v_order, .int v_peaCup, .int v_round, .ref (a 1), .ref (a 2), .ref (a 3)])), (a 1, .inl (cy 0, 4, .inl (upd v_eyes (p1 : Int32).toNatClampNeg p2))), (a 2, .inl (cy 0, 4, .inl v_coins)), (a 3, .inl (cy 0, 4, .inl v_thoughts))] := hD
    refine lv_aload_n hx hb dX7_setWatcher_14 rfl (lv_at hl 0 rfl) ?_
    refine va_get (D := D) (ci := 6) (v := .ref (a 2)) (C := RX7) (T := TX7) (N := 6) hx hb hts (fun _ h9 => List.mem_cons_of_mem _ (List.mem_append_right _ h9)) hown hE.1 hP 0 rfl rfl 4 (by decide) (hts (.fieldLink RX7 28 "PeaCups$Table" "coins" "[I") (List.mem_of_getElem? (i := 2) rfl)) (fun _ h9 => h9) rfl dX7_setWatcher_15 ?_
    refine lv_iload_n hx hb dX7_setWatcher_18 rfl (lv_at hl 1 rfl) ?_
    refine lv_iload_n hx hb dX7_setWatcher_19 rfl (lv_at hl 3 rfl) ?_
    obtain ⟨i_20, h⟩ := kk_x h
    refine va_iast hx hb hE.1 hP hD hS 2 0 rfl rfl i_20 dX7_setWatcher_20 (fun H locs hP hD hS => ?_)
    have hP : va_P D vwCl [(a 0, .inr (6, [.int v_order, .int v_peaCup, .int v_round, .ref (a 1), .ref (a 2), .ref (a 3)])), (a 1, .inl (cy 0, 4, .inl (upd v_eyes (p1 : Int32).toNatClampNeg p2))), (a 2, .inl (cy 0, 4, .inl (upd v_coins (p1 : Int32).toNatClampNeg p3))), (a 3, .inl (cy 0, 4, .inl v_thoughts))] H := hP
    have hD : va_D A [(a 0, .inr (6, [.int v_order, .int v_peaCup, .int v_round, .ref (a 1), .ref (a 2), .ref (a 3)])), (a 1, .inl (cy 0, 4, .inl (upd v_eyes (p1 : Int32).toNatClampNeg p2))), (a 2, .inl (cy 0, 4, .inl (upd v_coins (p1 : Int32).toNatClampNeg p3))), (a 3, .inl (cy 0, 4, .inl v_thoughts))] := hD
    refine lv_aload_n hx hb dX7_setWatcher_21 rfl (lv_at hl 0 rfl) ?_
    refine va_get (D := D) (ci := 6) (v := .ref (a 3)) (C := RX7) (T := TX7) (N := 6) hx hb hts (fun _ h9 => List.mem_cons_of_mem _ (List.mem_append_right _ h9)) hown hE.1 hP 0 rfl rfl 5 (by decide) (hts (.fieldLink RX7 31 "PeaCups$Table" "thoughts" "[I") (List.mem_of_getElem? (i := 3) rfl)) (fun _ h9 => h9) rfl dX7_setWatcher_22 ?_
    refine lv_iload_n hx hb dX7_setWatcher_25 rfl (lv_at hl 1 rfl) ?_
    refine lv_iload hx hb dX7_setWatcher_26 (lv_at hl 4 rfl) ?_
    obtain ⟨i_28, h⟩ := kk_x h
    refine va_iast hx hb hE.1 hP hD hS 3 0 rfl rfl i_28 dX7_setWatcher_28 (fun H locs hP hD hS => ?_)
    have hP : va_P D vwCl [(a 0, .inr (6, [.int v_order, .int v_peaCup, .int v_round, .ref (a 1), .ref (a 2), .ref (a 3)])), (a 1, .inl (cy 0, 4, .inl (upd v_eyes (p1 : Int32).toNatClampNeg p2))), (a 2, .inl (cy 0, 4, .inl (upd v_coins (p1 : Int32).toNatClampNeg p3))), (a 3, .inl (cy 0, 4, .inl (upd v_thoughts (p1 : Int32).toNatClampNeg p4)))] H := hP
    have hD : va_D A [(a 0, .inr (6, [.int v_order, .int v_peaCup, .int v_round, .ref (a 1), .ref (a 2), .ref (a 3)])), (a 1, .inl (cy 0, 4, .inl (upd v_eyes (p1 : Int32).toNatClampNeg p2))), (a 2, .inl (cy 0, 4, .inl (upd v_coins (p1 : Int32).toNatClampNeg p3))), (a 3, .inl (cy 0, 4, .inl (upd v_thoughts (p1 : Int32).toNatClampNeg p4)))] := hD
    exact kk_rwv (wf := wo_T_setWatcher cy a v_order v_peaCup v_round) hx hb hr hlocks h hQ hP hD hS dX7_setWatcher_29
