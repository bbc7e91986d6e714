/-! a tail, for rounds -/
theorem tail_ok : True := trivial
