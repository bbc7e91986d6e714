def P6 (a b c d e f : Nat) : Prop := (a < 6 ∧ b < 6 ∧ c < 6 ∧ d < 6 ∧ e < 6 ∧ f < 6) ∧ b ≠ a ∧ (c ≠ a ∧ c ≠ b) ∧ (d ≠ a ∧ d ≠ b ∧ d ≠ c) ∧ (e ≠ a ∧ e ≠ b ∧ e ≠ c ∧ e ≠ d) ∧ (f ≠ a ∧ f ≠ b ∧ f ≠ c ∧ f ≠ d ∧ f ≠ e)
def on6 (a b c d e f : Nat) : Nat → Int32 := fun k => ([nI a, nI b, nI c, nI d, nI e, nI f] : List Int32).getD k 0
def or6 (a b c d e f : Nat) : Int32 := nI (a + 8 * b + 64 * c + 512 * d + 4096 * e + 32768 * f)
def chk6 (Q : Nat → Nat → Nat → Nat → Nat → Nat → Bool) : Bool :=
  (List.range 6).all fun a => (List.range 6).all fun b => (b == a) || (List.range 6).all fun c => (c == a || c == b) || (List.range 6).all fun d => (d == a || d == b || d == c) || (List.range 6).all fun e => (e == a || e == b || e == c || e == d) || (List.range 6).all fun f => (f == a || f == b || f == c || f == d || f == e) || Q a b c d e f
theorem chk6_use {Q : Nat → Nat → Nat → Nat → Nat → Nat → Bool} (h : chk6 Q = true) {a b c d e f : Nat} (hp : P6 a b c d e f) : Q a b c d e f = true := by
  obtain ⟨⟨h1, h2, h3, h4, h5, h6⟩, q1, q2, q3, q4, q5⟩ := hp
  have k1 := List.all_eq_true.mp h a (List.mem_range.mpr h1)
  have k2 := List.all_eq_true.mp k1 b (List.mem_range.mpr h2)
  simp only [Bool.or_eq_true, beq_iff_eq, q1, false_or] at k2
  have k3 := List.all_eq_true.mp k2 c (List.mem_range.mpr h3)
  simp only [Bool.or_eq_true, beq_iff_eq, q2.1, q2.2, false_or] at k3
  have k4 := List.all_eq_true.mp k3 d (List.mem_range.mpr h4)
  simp only [Bool.or_eq_true, beq_iff_eq, q3.1, q3.2.1, q3.2.2, false_or] at k4
  have k5 := List.all_eq_true.mp k4 e (List.mem_range.mpr h5)
  simp only [Bool.or_eq_true, beq_iff_eq, q4.1, q4.2.1, q4.2.2.1, q4.2.2.2, false_or] at k5
  have k6 := List.all_eq_true.mp k5 f (List.mem_range.mpr h6)
  simpa only [Bool.or_eq_true, beq_iff_eq, q5.1, q5.2.1, q5.2.2.1, q5.2.2.2.1, q5.2.2.2.2, false_or] using k6
set_option maxRecDepth 100000 in
theorem t_row {a b c d e f : Nat} (hp : P6 a b c d e f) : f_O_toRow (or6 a b c d e f) = f_M_rowNow (on6 a b c d e f) :=
  of_decide_eq_true (chk6_use (Q := fun a b c d e f => decide (f_O_toRow (or6 a b c d e f) = f_M_rowNow (on6 a b c d e f))) (by decide +kernel) hp)
