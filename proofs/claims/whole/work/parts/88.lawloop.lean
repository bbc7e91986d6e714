theorem lw_go {i L : Nat} (hL : L ≤ 2560) (hi : i ≤ L) (h : ¬ (Int32.ofNat L - 5 < nI i)) : i + 5 ≤ L := by
  have e1 : (Int32.ofNat L - 5).toInt = (L : Int) - 5 := by
    rcases Nat.lt_or_ge L 5 with q | q
    · have h5 : ∀ j : Fin 5, (Int32.ofNat j.val - 5).toInt = (j.val : Int) - 5 := by decide
      exact h5 ⟨L, q⟩
    · rw [show Int32.ofNat L - 5 = nI (L - 5) from pk_sub q, nI_toInt (by omega)]
      omega
  rw [fa_lt, e1, nI_toInt (by omega)] at h
  omega
theorem lw_five (i : Nat) : nI i + Int32.ofInt 5 = nI (i + 5) := by
  rw [show Int32.ofInt 5 = nI 5 from by decide, nI_add]
theorem lw_sw (y : Int32) : y = 0 ∨ y = 1 ∨ y = 2 ∨ y = 3 ∨ y = 4 ∨ y = 5 ∨ y = 6 ∨ y = 7 ∨ y = 8 ∨ y = 9 ∨ y = 10 ∨ y = 11 ∨ y = 12 ∨ y = 13 ∨ y = 14 ∨ y = 15 ∨ y = 16 ∨ y = 17 ∨ y = 18 ∨ y = 19 ∨ y = 20 ∨ y = 21 ∨ y = 22 ∨ y = 23 ∨ y = 24 ∨ (y.toInt < 0 ∨ 24 < y.toInt) := by
  have h : y.toInt = 0 ∨ y.toInt = 1 ∨ y.toInt = 2 ∨ y.toInt = 3 ∨ y.toInt = 4 ∨ y.toInt = 5 ∨ y.toInt = 6 ∨ y.toInt = 7 ∨ y.toInt = 8 ∨ y.toInt = 9 ∨ y.toInt = 10 ∨ y.toInt = 11 ∨ y.toInt = 12 ∨ y.toInt = 13 ∨ y.toInt = 14 ∨ y.toInt = 15 ∨ y.toInt = 16 ∨ y.toInt = 17 ∨ y.toInt = 18 ∨ y.toInt = 19 ∨ y.toInt = 20 ∨ y.toInt = 21 ∨ y.toInt = 22 ∨ y.toInt = 23 ∨ y.toInt = 24 ∨ (y.toInt < 0 ∨ 24 < y.toInt) := by omega
  rcases h with h | h | h | h | h | h | h | h | h | h | h | h | h | h | h | h | h | h | h | h | h | h | h | h | h | h
  · exact Or.inl ((fa_eq y 0).mpr (h.trans (by decide)))
  · exact Or.inr (Or.inl ((fa_eq y 1).mpr (h.trans (by decide))))
  · exact Or.inr (Or.inr (Or.inl ((fa_eq y 2).mpr (h.trans (by decide)))))
  · exact Or.inr (Or.inr (Or.inr (Or.inl ((fa_eq y 3).mpr (h.trans (by decide))))))
  · exact Or.inr (Or.inr (Or.inr (Or.inr (Or.inl ((fa_eq y 4).mpr (h.trans (by decide)))))))
  · exact Or.inr (Or.inr (Or.inr (Or.inr (Or.inr (Or.inl ((fa_eq y 5).mpr (h.trans (by decide))))))))
  · exact Or.inr (Or.inr (Or.inr (Or.inr (Or.inr (Or.inr (Or.inl ((fa_eq y 6).mpr (h.trans (by decide)))))))))
  · exact Or.inr (Or.inr (Or.inr (Or.inr (Or.inr (Or.inr (Or.inr (Or.inl ((fa_eq y 7).mpr (h.trans (by decide))))))))))
  · exact Or.inr (Or.inr (Or.inr (Or.inr (Or.inr (Or.inr (Or.inr (Or.inr (Or.inl ((fa_eq y 8).mpr (h.trans (by decide)))))))))))
  · exact Or.inr (Or.inr (Or.inr (Or.inr (Or.inr (Or.inr (Or.inr (Or.inr (Or.inr (Or.inl ((fa_eq y 9).mpr (h.trans (by decide))))))))))))
  · exact Or.inr (Or.inr (Or.inr (Or.inr (Or.inr (Or.inr (Or.inr (Or.inr (Or.inr (Or.inr (Or.inl ((fa_eq y 10).mpr (h.trans (by decide)))))))))))))
  · exact Or.inr (Or.inr (Or.inr (Or.inr (Or.inr (Or.inr (Or.inr (Or.inr (Or.inr (Or.inr (Or.inr (Or.inl ((fa_eq y 11).mpr (h.trans (by decide))))))))))))))
  · exact Or.inr (Or.inr (Or.inr (Or.inr (Or.inr (Or.inr (Or.inr (Or.inr (Or.inr (Or.inr (Or.inr (Or.inr (Or.inl ((fa_eq y 12).mpr (h.trans (by decide)))))))))))))))
  · exact Or.inr (Or.inr (Or.inr (Or.inr (Or.inr (Or.inr (Or.inr (Or.inr (Or.inr (Or.inr (Or.inr (Or.inr (Or.inr (Or.inl ((fa_eq y 13).mpr (h.trans (by decide))))))))))))))))
  · exact Or.inr (Or.inr (Or.inr (Or.inr (Or.inr (Or.inr (Or.inr (Or.inr (Or.inr (Or.inr (Or.inr (Or.inr (Or.inr (Or.inr (Or.inl ((fa_eq y 14).mpr (h.trans (by decide)))))))))))))))))
  · exact Or.inr (Or.inr (Or.inr (Or.inr (Or.inr (Or.inr (Or.inr (Or.inr (Or.inr (Or.inr (Or.inr (Or.inr (Or.inr (Or.inr (Or.inr (Or.inl ((fa_eq y 15).mpr (h.trans (by decide))))))))))))))))))
  · exact Or.inr (Or.inr (Or.inr (Or.inr (Or.inr (Or.inr (Or.inr (Or.inr (Or.inr (Or.inr (Or.inr (Or.inr (Or.inr (Or.inr (Or.inr (Or.inr (Or.inl ((fa_eq y 16).mpr (h.trans (by decide)))))))))))))))))))
  · exact Or.inr (Or.inr (Or.inr (Or.inr (Or.inr (Or.inr (Or.inr (Or.inr (Or.inr (Or.inr (Or.inr (Or.inr (Or.inr (Or.inr (Or.inr (Or.inr (Or.inr (Or.inl ((fa_eq y 17).mpr (h.trans (by decide))))))))))))))))))))
  · exact Or.inr (Or.inr (Or.inr (Or.inr (Or.inr (Or.inr (Or.inr (Or.inr (Or.inr (Or.inr (Or.inr (Or.inr (Or.inr (Or.inr (Or.inr (Or.inr (Or.inr (Or.inr (Or.inl ((fa_eq y 18).mpr (h.trans (by decide)))))))))))))))))))))
  · exact Or.inr (Or.inr (Or.inr (Or.inr (Or.inr (Or.inr (Or.inr (Or.inr (Or.inr (Or.inr (Or.inr (Or.inr (Or.inr (Or.inr (Or.inr (Or.inr (Or.inr (Or.inr (Or.inr (Or.inl ((fa_eq y 19).mpr (h.trans (by decide))))))))))))))))))))))
  · exact Or.inr (Or.inr (Or.inr (Or.inr (Or.inr (Or.inr (Or.inr (Or.inr (Or.inr (Or.inr (Or.inr (Or.inr (Or.inr (Or.inr (Or.inr (Or.inr (Or.inr (Or.inr (Or.inr (Or.inr (Or.inl ((fa_eq y 20).mpr (h.trans (by decide)))))))))))))))))))))))
  · exact Or.inr (Or.inr (Or.inr (Or.inr (Or.inr (Or.inr (Or.inr (Or.inr (Or.inr (Or.inr (Or.inr (Or.inr (Or.inr (Or.inr (Or.inr (Or.inr (Or.inr (Or.inr (Or.inr (Or.inr (Or.inr (Or.inl ((fa_eq y 21).mpr (h.trans (by decide))))))))))))))))))))))))
  · exact Or.inr (Or.inr (Or.inr (Or.inr (Or.inr (Or.inr (Or.inr (Or.inr (Or.inr (Or.inr (Or.inr (Or.inr (Or.inr (Or.inr (Or.inr (Or.inr (Or.inr (Or.inr (Or.inr (Or.inr (Or.inr (Or.inr (Or.inl ((fa_eq y 22).mpr (h.trans (by decide)))))))))))))))))))))))))
  · exact Or.inr (Or.inr (Or.inr (Or.inr (Or.inr (Or.inr (Or.inr (Or.inr (Or.inr (Or.inr (Or.inr (Or.inr (Or.inr (Or.inr (Or.inr (Or.inr (Or.inr (Or.inr (Or.inr (Or.inr (Or.inr (Or.inr (Or.inr (Or.inl ((fa_eq y 23).mpr (h.trans (by decide))))))))))))))))))))))))))
  · exact Or.inr (Or.inr (Or.inr (Or.inr (Or.inr (Or.inr (Or.inr (Or.inr (Or.inr (Or.inr (Or.inr (Or.inr (Or.inr (Or.inr (Or.inr (Or.inr (Or.inr (Or.inr (Or.inr (Or.inr (Or.inr (Or.inr (Or.inr (Or.inr (Or.inl ((fa_eq y 24).mpr (h.trans (by decide)))))))))))))))))))))))))))
  · exact Or.inr (Or.inr (Or.inr (Or.inr (Or.inr (Or.inr (Or.inr (Or.inr (Or.inr (Or.inr (Or.inr (Or.inr (Or.inr (Or.inr (Or.inr (Or.inr (Or.inr (Or.inr (Or.inr (Or.inr (Or.inr (Or.inr (Or.inr (Or.inr (Or.inr (h)))))))))))))))))))))))))
set_option maxHeartbeats 4000000 in
set_option maxRecDepth 100000 in
theorem law_loop {p : Program} {l : Launch} {e : Env} {s : State} {m : MethodId} {below : List Frame} {meth : Method} {c : Code} {bb L : Nat} {xs : Nat → Int32} {D : va_G} {cy st a b : Nat → Nat} (C0 : lw_X p s m meth c bb L xs D cy st) (hL : L ≤ 2560) : ∀ (n i : Nat), i ≤ L → L + 1 ≤ i + n → ∀ (pn : Int32) (sg : Nat → Int32) (o pc rd : Int32) (ey co th : Nat → Int32) (t1 t2 t3 t4 t5 t6 t7 t8 t9 : Int32) (te tc tt : Nat → Int32) (k1 k2 k3 k4 k5 sc : Int32) (s1 s2 s3 : Nat → Int32) (qn : Int32) (sp qu : Nat → Int32) (fd : Int32) (wo : Nat → Int64) (j0 j1 j2 j3 : Int32) (j4 j5 j6 : Nat → Int32) (j7 : Int32) (j8 j9 ja : Nat → Int32) (l0 l1 l2 l3 : Int32) (l4 l5 l6 : Nat → Int32) (l7 : Int32) (l8 l9 la : Nat → Int32) (hid m1 m2 m3 m4 m5 m6 ka iw : Int32) (rw_ dd a1 a2 a3 a4 a5 g fr pa pb bi wi kp fl : Nat → Int32) , INV pn sg o pc rd ey co th te tc tt sc s1 s2 s3 fd wo j0 j1 j2 j3 j4 j5 j6 j7 j8 j9 ja l0 l1 l2 l3 l4 l5 l6 l7 l8 l9 la hid rw_ dd g pa pb kp fl → ∀ (H : Heap) (locs : List Loc), va_P D vwCl (WW cy a b pn sg o pc rd ey co th t1 t2 t3 t4 t5 t6 t7 t8 t9 te tc tt k1 k2 k3 k4 k5 sc s1 s2 s3 qn sp qu fd wo j0 j1 j2 j3 j4 j5 j6 j7 j8 j9 ja l0 l1 l2 l3 l4 l5 l6 l7 l8 l9 la hid m1 m2 m3 m4 m5 m6 ka iw rw_ dd a1 a2 a3 a4 a5 g fr pa pb bi wi kp fl) H → va_D (fun q : Nat => s.heap.size ≤ q) (WW cy a b pn sg o pc rd ey co th t1 t2 t3 t4 t5 t6 t7 t8 t9 te tc tt k1 k2 k3 k4 k5 sc s1 s2 s3 qn sp qu fd wo j0 j1 j2 j3 j4 j5 j6 j7 j8 j9 ja l0 l1 l2 l3 l4 l5 l6 l7 l8 l9 la hid m1 m2 m3 m4 m5 m6 ka iw rw_ dd a1 a2 a3 a4 a5 g fr pa pb bi wi kp fl) → va_S (fun q : Nat => s.heap.size ≤ q) s.heap H locs → ∀ (ls : Array Slot), lv_has ls 4 [(0, .ref bb), (1, .ref (a 0)), (2, .ref (b 0)), (3, .int (nI i))] → W p l e room_1 s m #[Value.ref bb] below meth c H locs 64 3966 (lw_Z below #[Value.ref bb] s) (F0 m 18 ls []) := by
  intro n
  induction n with
  | zero => intro i h1 h2; exact absurd h2 (by omega)
  | succ n ih =>
    intro i hi hn pn sg o pc rd ey co th t1 t2 t3 t4 t5 t6 t7 t8 t9 te tc tt k1 k2 k3 k4 k5 sc s1 s2 s3 qn sp qu fd wo j0 j1 j2 j3 j4 j5 j6 j7 j8 j9 ja l0 l1 l2 l3 l4 l5 l6 l7 l8 l9 la hid m1 m2 m3 m4 m5 m6 ka iw rw_ dd a1 a2 a3 a4 a5 g fr pa pb bi wi kp fl hI H locs hP hD hS ls hl
    obtain ⟨⟨hx, hb, hr, hml, hown, -, hX0, hbl, hlocks, hgv⟩, hts, hE, hX⟩ := id C0
    have hA : ∀ q : Nat, s.heap.size ≤ q → (fun q : Nat => s.heap.size ≤ q) q := fun _ h => h
    have hbA : ¬ (fun q : Nat => s.heap.size ≤ q) bb := Nat.not_le.mpr hbl
    refine lv_iload_n hx hb dL_law_18 rfl (lv_at hl 3 rfl) ?_
    refine lv_aload_n hx hb dL_law_19 rfl (lv_at hl 0 rfl) ?_
    refine va_slen hx hb hX0 hbl hbA hS dL_law_20 ?_
    refine lv_iconst (v := 5) hx hb dL_law_21 (by decide) ?_
    refine lv_isub hx hb dL_law_22 ?_
    refine lv_icmp_gt (tgt := 860) hx hb dL_law_23 (by decide) (fun _ => ?_) (fun c_23 => ?_)
    · refine lv_iconst (v := 1) hx hb dL_law_860 (by decide) ?_
      refine va_forget (fun q hq => hS.2.2 q hq) ?_
      refine W.widen (k := 600000) (n := 7302250) (Nat.le_of_ble_eq_true rfl) (Nat.le_of_ble_eq_true rfl) ?_
      exact lw_ret hx hb hr hlocks dL_law_861
    · have h5 : i + 5 ≤ L := lw_go hL hi c_23
      have vi : vp_in (nI i) L := vp_in_nI (by omega) (by omega)
      have on : lw_on p l e s m below meth c bb D cy a b (nI i) := by
        intro pn sg o pc rd ey co th t1 t2 t3 t4 t5 t6 t7 t8 t9 te tc tt k1 k2 k3 k4 k5 sc s1 s2 s3 qn sp qu fd wo j0 j1 j2 j3 j4 j5 j6 j7 j8 j9 ja l0 l1 l2 l3 l4 l5 l6 l7 l8 l9 la hid m1 m2 m3 m4 m5 m6 ka iw rw_ dd a1 a2 a3 a4 a5 g fr pa pb bi wi kp fl hI H locs hP hD hS ls hl
        refine lv_iinc (v := nI (i + 5)) (lv' := [(3, .int (nI (i + 5))), (0, .ref bb), (1, .ref (a 0)), (2, .ref (b 0))]) hx hb dL_law_854 hl (k := 3) rfl (lw_five i) (by decide) rfl (fun ls hl => ?_)
        refine lv_goto (tgt := 18) hx hb dL_law_857 (by decide) ?_
        exact ih (i + 5) h5 (by omega) pn sg o pc rd ey co th t1 t2 t3 t4 t5 t6 t7 t8 t9 te tc tt k1 k2 k3 k4 k5 sc s1 s2 s3 qn sp qu fd wo j0 j1 j2 j3 j4 j5 j6 j7 j8 j9 ja l0 l1 l2 l3 l4 l5 l6 l7 l8 l9 la hid m1 m2 m3 m4 m5 m6 ka iw rw_ dd a1 a2 a3 a4 a5 g fr pa pb bi wi kp fl hI H locs hP hD hS ls (lv_sub hl [1, 2, 3, 0] rfl)
      refine lv_aload_n hx hb dL_law_26 rfl (lv_at hl 0 rfl) ?_
      refine lv_iload_n hx hb dL_law_27 rfl (lv_at hl 3 rfl) ?_
      refine va_sld hx hb hX0 hbl hbA hS vi dL_law_28 ?_
      refine lv_bipush (v := 31) hx hb dL_law_29 (by decide) ?_
      refine lv_iand hx hb dL_law_31 ?_
      refine lv_topi (fun y _ => ?_)
      rcases lw_sw y with f | f | f | f | f | f | f | f | f | f | f | f | f | f | f | f | f | f | f | f | f | f | f | f | f | f
      · refine lv_tableIn (off := 116) (tgt := 148) hx hb dL_law_32 (by rw [f]; decide) (by rw [f]; decide) (by rw [f]; decide) (by decide) ?_
        exact law_cups C0 hL i h5 on pn sg o pc rd ey co th t1 t2 t3 t4 t5 t6 t7 t8 t9 te tc tt k1 k2 k3 k4 k5 sc s1 s2 s3 qn sp qu fd wo j0 j1 j2 j3 j4 j5 j6 j7 j8 j9 ja l0 l1 l2 l3 l4 l5 l6 l7 l8 l9 la hid m1 m2 m3 m4 m5 m6 ka iw rw_ dd a1 a2 a3 a4 a5 g fr pa pb bi wi kp fl hI H locs hP hD hS ls hl
      · refine lv_tableIn (off := 149) (tgt := 181) hx hb dL_law_32 (by rw [f]; decide) (by rw [f]; decide) (by rw [f]; decide) (by decide) ?_
        exact law_watcher C0 hL i h5 on pn sg o pc rd ey co th t1 t2 t3 t4 t5 t6 t7 t8 t9 te tc tt k1 k2 k3 k4 k5 sc s1 s2 s3 qn sp qu fd wo j0 j1 j2 j3 j4 j5 j6 j7 j8 j9 ja l0 l1 l2 l3 l4 l5 l6 l7 l8 l9 la hid m1 m2 m3 m4 m5 m6 ka iw rw_ dd a1 a2 a3 a4 a5 g fr pa pb bi wi kp fl hI H locs hP hD hS ls hl
      · refine lv_tableIn (off := 202) (tgt := 234) hx hb dL_law_32 (by rw [f]; decide) (by rw [f]; decide) (by rw [f]; decide) (by decide) ?_
        exact law_say C0 hL i h5 on pn sg o pc rd ey co th t1 t2 t3 t4 t5 t6 t7 t8 t9 te tc tt k1 k2 k3 k4 k5 sc s1 s2 s3 qn sp qu fd wo j0 j1 j2 j3 j4 j5 j6 j7 j8 j9 ja l0 l1 l2 l3 l4 l5 l6 l7 l8 l9 la hid m1 m2 m3 m4 m5 m6 ka iw rw_ dd a1 a2 a3 a4 a5 g fr pa pb bi wi kp fl hI H locs hP hD hS ls hl
      · refine lv_tableIn (off := 225) (tgt := 257) hx hb dL_law_32 (by rw [f]; decide) (by rw [f]; decide) (by rw [f]; decide) (by decide) ?_
        exact law_wipe C0 hL i h5 on pn sg o pc rd ey co th t1 t2 t3 t4 t5 t6 t7 t8 t9 te tc tt k1 k2 k3 k4 k5 sc s1 s2 s3 qn sp qu fd wo j0 j1 j2 j3 j4 j5 j6 j7 j8 j9 ja l0 l1 l2 l3 l4 l5 l6 l7 l8 l9 la hid m1 m2 m3 m4 m5 m6 ka iw rw_ dd a1 a2 a3 a4 a5 g fr pa pb bi wi kp fl hI H locs hP hD hS ls hl
      · refine lv_tableIn (off := 238) (tgt := 270) hx hb dL_law_32 (by rw [f]; decide) (by rw [f]; decide) (by rw [f]; decide) (by decide) ?_
        exact law_fault C0 hL i h5 on pn sg o pc rd ey co th t1 t2 t3 t4 t5 t6 t7 t8 t9 te tc tt k1 k2 k3 k4 k5 sc s1 s2 s3 qn sp qu fd wo j0 j1 j2 j3 j4 j5 j6 j7 j8 j9 ja l0 l1 l2 l3 l4 l5 l6 l7 l8 l9 la hid m1 m2 m3 m4 m5 m6 ka iw rw_ dd a1 a2 a3 a4 a5 g fr pa pb bi wi kp fl hI H locs hP hD hS ls hl
      · refine lv_tableIn (off := 251) (tgt := 283) hx hb dL_law_32 (by rw [f]; decide) (by rw [f]; decide) (by rw [f]; decide) (by decide) ?_
        exact law_judge C0 hL i h5 on pn sg o pc rd ey co th t1 t2 t3 t4 t5 t6 t7 t8 t9 te tc tt k1 k2 k3 k4 k5 sc s1 s2 s3 qn sp qu fd wo j0 j1 j2 j3 j4 j5 j6 j7 j8 j9 ja l0 l1 l2 l3 l4 l5 l6 l7 l8 l9 la hid m1 m2 m3 m4 m5 m6 ka iw rw_ dd a1 a2 a3 a4 a5 g fr pa pb bi wi kp fl hI H locs hP hD hS ls hl
      · refine lv_tableIn (off := 274) (tgt := 306) hx hb dL_law_32 (by rw [f]; decide) (by rw [f]; decide) (by rw [f]; decide) (by decide) ?_
        exact law_behind C0 hL i h5 on pn sg o pc rd ey co th t1 t2 t3 t4 t5 t6 t7 t8 t9 te tc tt k1 k2 k3 k4 k5 sc s1 s2 s3 qn sp qu fd wo j0 j1 j2 j3 j4 j5 j6 j7 j8 j9 ja l0 l1 l2 l3 l4 l5 l6 l7 l8 l9 la hid m1 m2 m3 m4 m5 m6 ka iw rw_ dd a1 a2 a3 a4 a5 g fr pa pb bi wi kp fl hI H locs hP hD hS ls hl
      · refine lv_tableIn (off := 307) (tgt := 339) hx hb dL_law_32 (by rw [f]; decide) (by rw [f]; decide) (by rw [f]; decide) (by decide) ?_
        exact law_table C0 hL i h5 on pn sg o pc rd ey co th t1 t2 t3 t4 t5 t6 t7 t8 t9 te tc tt k1 k2 k3 k4 k5 sc s1 s2 s3 qn sp qu fd wo j0 j1 j2 j3 j4 j5 j6 j7 j8 j9 ja l0 l1 l2 l3 l4 l5 l6 l7 l8 l9 la hid m1 m2 m3 m4 m5 m6 ka iw rw_ dd a1 a2 a3 a4 a5 g fr pa pb bi wi kp fl hI H locs hP hD hS ls hl
      · refine lv_tableIn (off := 330) (tgt := 362) hx hb dL_law_32 (by rw [f]; decide) (by rw [f]; decide) (by rw [f]; decide) (by decide) ?_
        exact law_pea C0 hL i h5 on pn sg o pc rd ey co th t1 t2 t3 t4 t5 t6 t7 t8 t9 te tc tt k1 k2 k3 k4 k5 sc s1 s2 s3 qn sp qu fd wo j0 j1 j2 j3 j4 j5 j6 j7 j8 j9 ja l0 l1 l2 l3 l4 l5 l6 l7 l8 l9 la hid m1 m2 m3 m4 m5 m6 ka iw rw_ dd a1 a2 a3 a4 a5 g fr pa pb bi wi kp fl hI H locs hP hD hS ls hl
      · refine lv_tableIn (off := 353) (tgt := 385) hx hb dL_law_32 (by rw [f]; decide) (by rw [f]; decide) (by rw [f]; decide) (by decide) ?_
        exact law_first C0 hL i h5 on pn sg o pc rd ey co th t1 t2 t3 t4 t5 t6 t7 t8 t9 te tc tt k1 k2 k3 k4 k5 sc s1 s2 s3 qn sp qu fd wo j0 j1 j2 j3 j4 j5 j6 j7 j8 j9 ja l0 l1 l2 l3 l4 l5 l6 l7 l8 l9 la hid m1 m2 m3 m4 m5 m6 ka iw rw_ dd a1 a2 a3 a4 a5 g fr pa pb bi wi kp fl hI H locs hP hD hS ls hl
      · refine lv_tableIn (off := 376) (tgt := 408) hx hb dL_law_32 (by rw [f]; decide) (by rw [f]; decide) (by rw [f]; decide) (by decide) ?_
        exact law_done C0 hL i h5 on pn sg o pc rd ey co th t1 t2 t3 t4 t5 t6 t7 t8 t9 te tc tt k1 k2 k3 k4 k5 sc s1 s2 s3 qn sp qu fd wo j0 j1 j2 j3 j4 j5 j6 j7 j8 j9 ja l0 l1 l2 l3 l4 l5 l6 l7 l8 l9 la hid m1 m2 m3 m4 m5 m6 ka iw rw_ dd a1 a2 a3 a4 a5 g fr pa pb bi wi kp fl hI H locs hP hD hS ls hl
      · refine lv_tableIn (off := 389) (tgt := 421) hx hb dL_law_32 (by rw [f]; decide) (by rw [f]; decide) (by rw [f]; decide) (by decide) ?_
        exact law_changes C0 hL i h5 on pn sg o pc rd ey co th t1 t2 t3 t4 t5 t6 t7 t8 t9 te tc tt k1 k2 k3 k4 k5 sc s1 s2 s3 qn sp qu fd wo j0 j1 j2 j3 j4 j5 j6 j7 j8 j9 ja l0 l1 l2 l3 l4 l5 l6 l7 l8 l9 la hid m1 m2 m3 m4 m5 m6 ka iw rw_ dd a1 a2 a3 a4 a5 g fr pa pb bi wi kp fl hI H locs hP hD hS ls hl
      · refine lv_tableIn (off := 422) (tgt := 454) hx hb dL_law_32 (by rw [f]; decide) (by rw [f]; decide) (by rw [f]; decide) (by decide) ?_
        exact law_by C0 hL i h5 on pn sg o pc rd ey co th t1 t2 t3 t4 t5 t6 t7 t8 t9 te tc tt k1 k2 k3 k4 k5 sc s1 s2 s3 qn sp qu fd wo j0 j1 j2 j3 j4 j5 j6 j7 j8 j9 ja l0 l1 l2 l3 l4 l5 l6 l7 l8 l9 la hid m1 m2 m3 m4 m5 m6 ka iw rw_ dd a1 a2 a3 a4 a5 g fr pa pb bi wi kp fl hI H locs hP hD hS ls hl
      · refine lv_tableIn (off := 465) (tgt := 497) hx hb dL_law_32 (by rw [f]; decide) (by rw [f]; decide) (by rw [f]; decide) (by decide) ?_
        exact law_rank C0 hL i h5 on pn sg o pc rd ey co th t1 t2 t3 t4 t5 t6 t7 t8 t9 te tc tt k1 k2 k3 k4 k5 sc s1 s2 s3 qn sp qu fd wo j0 j1 j2 j3 j4 j5 j6 j7 j8 j9 ja l0 l1 l2 l3 l4 l5 l6 l7 l8 l9 la hid m1 m2 m3 m4 m5 m6 ka iw rw_ dd a1 a2 a3 a4 a5 g fr pa pb bi wi kp fl hI H locs hP hD hS ls hl
      · refine lv_tableIn (off := 488) (tgt := 520) hx hb dL_law_32 (by rw [f]; decide) (by rw [f]; decide) (by rw [f]; decide) (by decide) ?_
        exact law_row C0 hL i h5 on pn sg o pc rd ey co th t1 t2 t3 t4 t5 t6 t7 t8 t9 te tc tt k1 k2 k3 k4 k5 sc s1 s2 s3 qn sp qu fd wo j0 j1 j2 j3 j4 j5 j6 j7 j8 j9 ja l0 l1 l2 l3 l4 l5 l6 l7 l8 l9 la hid m1 m2 m3 m4 m5 m6 ka iw rw_ dd a1 a2 a3 a4 a5 g fr pa pb bi wi kp fl hI H locs hP hD hS ls hl
      · refine lv_tableIn (off := 511) (tgt := 543) hx hb dL_law_32 (by rw [f]; decide) (by rw [f]; decide) (by rw [f]; decide) (by decide) ?_
        exact law_weigh C0 hL i h5 on pn sg o pc rd ey co th t1 t2 t3 t4 t5 t6 t7 t8 t9 te tc tt k1 k2 k3 k4 k5 sc s1 s2 s3 qn sp qu fd wo j0 j1 j2 j3 j4 j5 j6 j7 j8 j9 ja l0 l1 l2 l3 l4 l5 l6 l7 l8 l9 la hid m1 m2 m3 m4 m5 m6 ka iw rw_ dd a1 a2 a3 a4 a5 g fr pa pb bi wi kp fl hI H locs hP hD hS ls hl
      · refine lv_tableIn (off := 554) (tgt := 586) hx hb dL_law_32 (by rw [f]; decide) (by rw [f]; decide) (by rw [f]; decide) (by decide) ?_
        exact law_forget C0 hL i h5 on pn sg o pc rd ey co th t1 t2 t3 t4 t5 t6 t7 t8 t9 te tc tt k1 k2 k3 k4 k5 sc s1 s2 s3 qn sp qu fd wo j0 j1 j2 j3 j4 j5 j6 j7 j8 j9 ja l0 l1 l2 l3 l4 l5 l6 l7 l8 l9 la hid m1 m2 m3 m4 m5 m6 ka iw rw_ dd a1 a2 a3 a4 a5 g fr pa pb bi wi kp fl hI H locs hP hD hS ls hl
      · refine lv_tableIn (off := 567) (tgt := 599) hx hb dL_law_32 (by rw [f]; decide) (by rw [f]; decide) (by rw [f]; decide) (by decide) ?_
        exact law_cases C0 hL i h5 on pn sg o pc rd ey co th t1 t2 t3 t4 t5 t6 t7 t8 t9 te tc tt k1 k2 k3 k4 k5 sc s1 s2 s3 qn sp qu fd wo j0 j1 j2 j3 j4 j5 j6 j7 j8 j9 ja l0 l1 l2 l3 l4 l5 l6 l7 l8 l9 la hid m1 m2 m3 m4 m5 m6 ka iw rw_ dd a1 a2 a3 a4 a5 g fr pa pb bi wi kp fl hI H locs hP hD hS ls hl
      · refine lv_tableIn (off := 590) (tgt := 622) hx hb dL_law_32 (by rw [f]; decide) (by rw [f]; decide) (by rw [f]; decide) (by decide) ?_
        exact law_leaves C0 hL i h5 on pn sg o pc rd ey co th t1 t2 t3 t4 t5 t6 t7 t8 t9 te tc tt k1 k2 k3 k4 k5 sc s1 s2 s3 qn sp qu fd wo j0 j1 j2 j3 j4 j5 j6 j7 j8 j9 ja l0 l1 l2 l3 l4 l5 l6 l7 l8 l9 la hid m1 m2 m3 m4 m5 m6 ka iw rw_ dd a1 a2 a3 a4 a5 g fr pa pb bi wi kp fl hI H locs hP hD hS ls hl
      · refine lv_tableIn (off := 623) (tgt := 655) hx hb dL_law_32 (by rw [f]; decide) (by rw [f]; decide) (by rw [f]; decide) (by decide) ?_
        exact law_squares C0 hL i h5 on pn sg o pc rd ey co th t1 t2 t3 t4 t5 t6 t7 t8 t9 te tc tt k1 k2 k3 k4 k5 sc s1 s2 s3 qn sp qu fd wo j0 j1 j2 j3 j4 j5 j6 j7 j8 j9 ja l0 l1 l2 l3 l4 l5 l6 l7 l8 l9 la hid m1 m2 m3 m4 m5 m6 ka iw rw_ dd a1 a2 a3 a4 a5 g fr pa pb bi wi kp fl hI H locs hP hD hS ls hl
      · refine lv_tableIn (off := 656) (tgt := 688) hx hb dL_law_32 (by rw [f]; decide) (by rw [f]; decide) (by rw [f]; decide) (by decide) ?_
        exact law_lot C0 hL i h5 on pn sg o pc rd ey co th t1 t2 t3 t4 t5 t6 t7 t8 t9 te tc tt k1 k2 k3 k4 k5 sc s1 s2 s3 qn sp qu fd wo j0 j1 j2 j3 j4 j5 j6 j7 j8 j9 ja l0 l1 l2 l3 l4 l5 l6 l7 l8 l9 la hid m1 m2 m3 m4 m5 m6 ka iw rw_ dd a1 a2 a3 a4 a5 g fr pa pb bi wi kp fl hI H locs hP hD hS ls hl
      · refine lv_tableIn (off := 710) (tgt := 742) hx hb dL_law_32 (by rw [f]; decide) (by rw [f]; decide) (by rw [f]; decide) (by decide) ?_
        exact law_year C0 hL i h5 on pn sg o pc rd ey co th t1 t2 t3 t4 t5 t6 t7 t8 t9 te tc tt k1 k2 k3 k4 k5 sc s1 s2 s3 qn sp qu fd wo j0 j1 j2 j3 j4 j5 j6 j7 j8 j9 ja l0 l1 l2 l3 l4 l5 l6 l7 l8 l9 la hid m1 m2 m3 m4 m5 m6 ka iw rw_ dd a1 a2 a3 a4 a5 g fr pa pb bi wi kp fl hI H locs hP hD hS ls hl
      · refine lv_tableIn (off := 753) (tgt := 785) hx hb dL_law_32 (by rw [f]; decide) (by rw [f]; decide) (by rw [f]; decide) (by decide) ?_
        exact law_image C0 hL i h5 on pn sg o pc rd ey co th t1 t2 t3 t4 t5 t6 t7 t8 t9 te tc tt k1 k2 k3 k4 k5 sc s1 s2 s3 qn sp qu fd wo j0 j1 j2 j3 j4 j5 j6 j7 j8 j9 ja l0 l1 l2 l3 l4 l5 l6 l7 l8 l9 la hid m1 m2 m3 m4 m5 m6 ka iw rw_ dd a1 a2 a3 a4 a5 g fr pa pb bi wi kp fl hI H locs hP hD hS ls hl
      · refine lv_tableIn (off := 776) (tgt := 808) hx hb dL_law_32 (by rw [f]; decide) (by rw [f]; decide) (by rw [f]; decide) (by decide) ?_
        exact law_restore C0 hL i h5 on pn sg o pc rd ey co th t1 t2 t3 t4 t5 t6 t7 t8 t9 te tc tt k1 k2 k3 k4 k5 sc s1 s2 s3 qn sp qu fd wo j0 j1 j2 j3 j4 j5 j6 j7 j8 j9 ja l0 l1 l2 l3 l4 l5 l6 l7 l8 l9 la hid m1 m2 m3 m4 m5 m6 ka iw rw_ dd a1 a2 a3 a4 a5 g fr pa pb bi wi kp fl hI H locs hP hD hS ls hl
      · refine lv_tableIn (off := 799) (tgt := 831) hx hb dL_law_32 (by rw [f]; decide) (by rw [f]; decide) (by rw [f]; decide) (by decide) ?_
        exact law_told C0 hL i h5 on pn sg o pc rd ey co th t1 t2 t3 t4 t5 t6 t7 t8 t9 te tc tt k1 k2 k3 k4 k5 sc s1 s2 s3 qn sp qu fd wo j0 j1 j2 j3 j4 j5 j6 j7 j8 j9 ja l0 l1 l2 l3 l4 l5 l6 l7 l8 l9 la hid m1 m2 m3 m4 m5 m6 ka iw rw_ dd a1 a2 a3 a4 a5 g fr pa pb bi wi kp fl hI H locs hP hD hS ls hl
      · refine lv_tableOut (tgt := 854) hx hb dL_law_32 f (by decide) ?_
        exact on pn sg o pc rd ey co th t1 t2 t3 t4 t5 t6 t7 t8 t9 te tc tt k1 k2 k3 k4 k5 sc s1 s2 s3 qn sp qu fd wo j0 j1 j2 j3 j4 j5 j6 j7 j8 j9 ja l0 l1 l2 l3 l4 l5 l6 l7 l8 l9 la hid m1 m2 m3 m4 m5 m6 ka iw rw_ dd a1 a2 a3 a4 a5 g fr pa pb bi wi kp fl hI H locs hP hD hS ls hl
