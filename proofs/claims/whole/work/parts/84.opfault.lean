/-! fault, as asked of the class -/
theorem op_fault {c ac0 : Int32} {sg ac on ot mu : Nat → Int32} (h : PAD c sg) : ∃ (r n : Int32) (ac' on' ot' mu' : Nat → Int32), f_C_fault c sg = some r ∧ f_M_fault c ac0 sg ac on ot mu = some (r, n, ac', on', ot', mu') := by
  obtain ⟨cnt, hc, rfl, hs⟩ := h
  obtain ⟨x, n, a1, a2, a3, a4, h1, h2, -⟩ := fault_CM (ac0 := ac0) (ac := ac) (on := on) (ot := ot) (mu := mu) hc hs
  exact ⟨x, nI n, a1, a2, a3, a4, by unfold f_C_fault; rw [bind_some' h1], h2⟩
