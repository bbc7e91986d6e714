/-! by lot: class and reference, all the askings there are -/
set_option maxRecDepth 100000 in
theorem lot_chk : ((List.range 624).all fun n => decide (f_C_lot (nI (n / 48)) (nI (n / 8 % 6)) (nI (n / 4 % 2)) (nI (n / 2 % 2)) = f_M_lot (nI (n / 48)) (nI (n / 8 % 6)) (nI (n / 4 % 2)) (nI (n / 2 % 2))) && (f_M_lot (nI (n / 48)) (nI (n / 8 % 6)) (nI (n / 4 % 2)) (nI (n / 2 % 2))).isSome) = true := by decide +kernel
theorem op_lot (p1 p2 p3 p4 : Int32) : ∃ r, f_C_lot p1 p2 p3 p4 = some r ∧ f_M_lot p1 p2 p3 p4 = some r := by
  have i1 := inL_eq p1 (lo := 0) (hi := 12) (by decide) (by decide)
  have i3 := inL_eq p3 (lo := 0) (hi := 1) (by decide) (by decide)
  have i4 := inL_eq p4 (lo := 0) (hi := 1) (by decide) (by decide)
  rcases within_cases p1 (lo := 0) (hi := 12) (by decide) (by decide) with ⟨a, -, ha, rfl, w1⟩ | w1
  · rw [w1] at i1
    rcases place_cases p2 with ⟨b, hb, rfl, w2, j2⟩ | ⟨w2, j2⟩
    · rcases within_cases p3 (lo := 0) (hi := 1) (by decide) (by decide) with ⟨c, -, hc, rfl, w3⟩ | w3
      · rw [w3] at i3
        rcases within_cases p4 (lo := 0) (hi := 1) (by decide) (by decide) with ⟨d, -, hd, rfl, w4⟩ | w4
        · have h := (Bool.and_eq_true _ _).mp (all_lt lot_chk (i := 48 * a + 8 * b + 4 * c + 2 * d) (by omega))
          rw [show (48 * a + 8 * b + 4 * c + 2 * d) / 48 = a by omega, show (48 * a + 8 * b + 4 * c + 2 * d) / 8 % 6 = b by omega, show (48 * a + 8 * b + 4 * c + 2 * d) / 4 % 2 = c by omega, show (48 * a + 8 * b + 4 * c + 2 * d) / 2 % 2 = d by omega] at h
          obtain ⟨r, hr⟩ := Option.isSome_iff_exists.mp h.2
          exact ⟨r, by rw [of_decide_eq_true h.1]; exact hr, hr⟩
        · rw [w4] at i4
          unfold f_C_lot f_M_lot
          rw [bind_some' (show f_C_isWithin (nI a) 0 12 = some 1 from w1), bind_some' (show f_M_in (Int32.toInt64 (nI a)) 0 12 = some 1 from i1), n10, n10, bind_some' w2, bind_some' j2, n10, n10, bind_some' (show f_C_isWithin (nI c) 0 1 = some 1 from w3), bind_some' (show f_M_in (Int32.toInt64 (nI c)) 0 1 = some 1 from i3), n10, n10, bind_some' (show f_C_isWithin p4 0 1 = some 0 from w4), bind_some' (show f_M_in (Int32.toInt64 p4) 0 1 = some 0 from i4), y00, y00]
          exact ⟨_, rfl, rfl⟩
      · rw [w3] at i3
        unfold f_C_lot f_M_lot
        rw [bind_some' (show f_C_isWithin (nI a) 0 12 = some 1 from w1), bind_some' (show f_M_in (Int32.toInt64 (nI a)) 0 12 = some 1 from i1), n10, n10, bind_some' w2, bind_some' j2, n10, n10, bind_some' (show f_C_isWithin p3 0 1 = some 0 from w3), bind_some' (show f_M_in (Int32.toInt64 p3) 0 1 = some 0 from i3), y00, y00]
        exact ⟨_, rfl, rfl⟩
    · unfold f_C_lot f_M_lot
      rw [bind_some' (show f_C_isWithin (nI a) 0 12 = some 1 from w1), bind_some' (show f_M_in (Int32.toInt64 (nI a)) 0 12 = some 1 from i1), n10, n10, bind_some' w2, bind_some' j2, y00, y00]
      exact ⟨_, rfl, rfl⟩
  · rw [w1] at i1
    unfold f_C_lot f_M_lot
    rw [bind_some' (show f_C_isWithin p1 0 12 = some 0 from w1), bind_some' (show f_M_in (Int32.toInt64 p1) 0 12 = some 0 from i1), y00, y00]
    exact ⟨_, rfl, rfl⟩
