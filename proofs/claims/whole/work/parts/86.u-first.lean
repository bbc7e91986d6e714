/-! a new object of each side -/
def e4 (x : Int32) : Nat → Int32 := upd (upd (upd (upd (fun _ => 0) (0 : Int32).toNatClampNeg x) (1 : Int32).toNatClampNeg x) (2 : Int32).toNatClampNeg x) (3 : Int32).toNatClampNeg x
theorem cl0 : (0 : Int32).toNatClampNeg = 0 := by decide
theorem cl1 : (1 : Int32).toNatClampNeg = 1 := by decide
theorem cl2 : (2 : Int32).toNatClampNeg = 2 := by decide
theorem cl3 : (3 : Int32).toNatClampNeg = 3 := by decide
theorem cm1 : (0 + 1 : Int32).toNatClampNeg = 1 := by decide
theorem cm2 : ((0 + 1) + 1 : Int32).toNatClampNeg = 2 := by decide
theorem cm3 : (((0 + 1) + 1) + 1 : Int32).toNatClampNeg = 3 := by decide
theorem cm4 : ((((0 + 1) + 1) + 1) + 1 : Int32).toNatClampNeg = 4 := by decide
theorem cm5 : (((((0 + 1) + 1) + 1) + 1) + 1 : Int32).toNatClampNeg = 5 := by decide
theorem e4_eq (x : Int32) : e4 x = upd (upd (upd (upd (fun _ => 0) 0 x) 1 x) 2 x) 3 x := by
  unfold e4
  rw [cl0, cl1, cl2, cl3]
theorem e4M (x : Int32) : upd (upd (upd (upd (fun _ => 0) (0 : Int32).toNatClampNeg x) (0 + 1 : Int32).toNatClampNeg x) ((0 + 1) + 1 : Int32).toNatClampNeg x) (((0 + 1) + 1) + 1 : Int32).toNatClampNeg x = e4 x := by
  rw [e4_eq, cl0, cm1, cm2, cm3]
theorem onM : upd (upd (upd (upd (upd (upd (fun _ => 0) (0 : Int32).toNatClampNeg 0) (0 + 1 : Int32).toNatClampNeg (0 + 1)) ((0 + 1) + 1 : Int32).toNatClampNeg ((0 + 1) + 1)) (((0 + 1) + 1) + 1 : Int32).toNatClampNeg (((0 + 1) + 1) + 1)) ((((0 + 1) + 1) + 1) + 1 : Int32).toNatClampNeg ((((0 + 1) + 1) + 1) + 1)) (((((0 + 1) + 1) + 1) + 1) + 1 : Int32).toNatClampNeg (((((0 + 1) + 1) + 1) + 1) + 1) = on6 0 1 2 3 4 5 := by
  rw [cl0, cm1, cm2, cm3, cm4, cm5]
  funext k
  match k with
  | 0 => decide
  | 1 => decide
  | 2 => decide
  | 3 => decide
  | 4 => decide
  | 5 => decide
  | k + 6 =>
    rw [upd_ne (by omega), upd_ne (by omega), upd_ne (by omega), upd_ne (by omega), upd_ne (by omega), upd_ne (by omega)]
    exact (on6_Z (k + 6) (by omega)).symm
theorem z4 (x : Int32) : Zn 4 (e4 x) := by
  rw [e4_eq]
  exact Zn.upd (Zn.upd (Zn.upd (Zn.upd (fun _ _ => rfl) (by omega)) (by omega)) (by omega)) (by omega)
theorem e4_at (x : Int32) : ∀ w, w < 4 → e4 x w = x := by
  rw [e4_eq]
  exact lt4 (by rw [upd_ne (by omega), upd_ne (by omega), upd_ne (by omega), upd_at]) (by rw [upd_ne (by omega), upd_ne (by omega), upd_at]) (by rw [upd_ne (by omega), upd_at]) upd_at
theorem TT0 : TT 181896 0 0 (e4 5) (e4 20) (e4 63) (on6 0 1 2 3 4 5) 0 :=
  ⟨⟨0, 1, 2, 3, 4, 5, by unfold P6; decide, by decide, rfl⟩, Or.inr ⟨0, by omega, nI_0.symm, nI_0.symm⟩, ⟨0, by omega, nI_0.symm⟩, ⟨z4 5, z4 20, z4 63⟩, fun w hw => ⟨20, by omega, e4_at 20 w hw⟩, fun w hw => ⟨63, by omega, e4_at 63 w hw⟩⟩
theorem tb0 (m : Nat) : tb (fun _ => 0) m = false := by
  show ((0 : Int64).toBitVec).getLsbD (m % 64) = false
  rw [show (0 : Int64).toBitVec = 0#64 from by decide]
  exact BitVec.getLsbD_zero
theorem INV0 : INV 0 (fun _ => 0) 181896 0 0 (e4 5) (e4 20) (e4 63) (e4 5) (e4 20) (e4 63) 0 (fun _ => 0) (fun _ => 0) (fun _ => 0) 0 (fun _ => 0) 0 181896 0 0 (e4 5) (e4 20) (e4 63) 0 (fun _ => 0) (fun _ => 0) (fun _ => 0) 0 181896 0 0 (e4 5) (e4 20) (e4 63) 0 (fun _ => 0) (fun _ => 0) (fun _ => 0) 0 (on6 0 1 2 3 4 5) (fun _ => 0) (fun _ => 0) (fun _ => 0) (fun _ => 0) (fun _ => 0) (fun _ => 0) :=
  ⟨TT0, ⟨0, by omega, nI_0.symm, fun k hk => absurd hk (Nat.not_lt_zero k)⟩, ⟨⟨0, by omega, nI_0.symm⟩, fun _ _ => rfl, fun _ _ => rfl, fun _ _ => rfl⟩,
   ⟨rfl, ⟨z4 5, z4 20, z4 63⟩, ⟨fun _ _ => rfl, fun _ _ => rfl, fun _ _ => rfl⟩, Or.inl rfl⟩, ⟨rfl, ⟨z4 5, z4 20, z4 63⟩, ⟨fun _ _ => rfl, fun _ _ => rfl, fun _ _ => rfl⟩, Or.inl rfl⟩,
   Or.inl ⟨rfl, fun m _ => tb0 m⟩, ⟨z4 5, z4 20, z4 63⟩, fun _ _ => rfl, fun _ _ => rfl, fun _ _ => rfl, fun _ _ => rfl⟩
theorem wm_eq (cy b : Nat → Nat) : wc_M cy b = [(b 0, .inr (9, [.ref (b 1), .int 0, .ref (b 2), .ref (b 3), .ref (b 4), .int 0, .ref (b 5), .ref (b 6), .ref (b 7), .int 0, .ref (b 8), .ref (b 9), .int 0, .ref (b 10), .ref (b 11), .ref (b 12), .ref (b 13), .int 0, .int 0, .ref (b 14), .int 0, .int 0, .int 0, .int 0, .ref (b 15), .ref (b 16), .ref (b 17), .ref (b 18), .ref (b 19), .ref (b 20), .ref (b 21), .ref (b 22), .int 0, .int 0])), (b 1, .inl (cy 0, 6, .inl (on6 0 1 2 3 4 5))), (b 2, .inl (cy 0, 4, .inl (e4 5))), (b 3, .inl (cy 0, 4, .inl (e4 20))), (b 4, .inl (cy 0, 4, .inl (e4 63))), (b 5, .inl (cy 0, 8, .inl (fun _ => 0))), (b 6, .inl (cy 0, 8, .inl (fun _ => 0))), (b 7, .inl (cy 0, 8, .inl (fun _ => 0))), (b 8, .inl (cy 0, 6, .inl (fun _ => 0))), (b 9, .inl (cy 0, 60, .inl (fun _ => 0))), (b 10, .inl (cy 0, 60, .inl (fun _ => 0))), (b 11, .inl (cy 0, 60, .inl (fun _ => 0))), (b 12, .inl (cy 0, 60, .inl (fun _ => 0))), (b 13, .inl (cy 0, 60, .inl (fun _ => 0))), (b 14, .inl (cy 0, 16, .inl (fun _ => 0))), (b 15, .inl (cy 0, 6, .inl (fun _ => 0))), (b 16, .inl (cy 0, 720, .inl (fun _ => 0))), (b 17, .inl (cy 0, 15, .inl (fun _ => 0))), (b 18, .inl (cy 0, 15, .inl (fun _ => 0))), (b 19, .inl (cy 0, 3, .inl (fun _ => 0))), (b 20, .inl (cy 2, 1000, .inl (fun _ => 0))), (b 21, .inl (cy 0, 100, .inl (fun _ => 0))), (b 22, .inl (cy 2, 2, .inl (fun _ => 0)))] := by
  show ([(b 0, .inr (9, [.ref (b 1), .int 0, .ref (b 2), .ref (b 3), .ref (b 4), .int 0, .ref (b 5), .ref (b 6), .ref (b 7), .int 0, .ref (b 8), .ref (b 9), .int 0, .ref (b 10), .ref (b 11), .ref (b 12), .ref (b 13), .int 0, .int 0, .ref (b 14), .int 0, .int 0, .int 0, .int 0, .ref (b 15), .ref (b 16), .ref (b 17), .ref (b 18), .ref (b 19), .ref (b 20), .ref (b 21), .ref (b 22), .int 0, .int 0])), (b 1, .inl (cy 0, 6, .inl (upd (upd (upd (upd (upd (upd (fun _ => 0) (0 : Int32).toNatClampNeg 0) (0 + 1 : Int32).toNatClampNeg (0 + 1)) ((0 + 1) + 1 : Int32).toNatClampNeg ((0 + 1) + 1)) (((0 + 1) + 1) + 1 : Int32).toNatClampNeg (((0 + 1) + 1) + 1)) ((((0 + 1) + 1) + 1) + 1 : Int32).toNatClampNeg ((((0 + 1) + 1) + 1) + 1)) (((((0 + 1) + 1) + 1) + 1) + 1 : Int32).toNatClampNeg (((((0 + 1) + 1) + 1) + 1) + 1)))), (b 2, .inl (cy 0, 4, .inl (upd (upd (upd (upd (fun _ => 0) (0 : Int32).toNatClampNeg 5) (0 + 1 : Int32).toNatClampNeg 5) ((0 + 1) + 1 : Int32).toNatClampNeg 5) (((0 + 1) + 1) + 1 : Int32).toNatClampNeg 5))), (b 3, .inl (cy 0, 4, .inl (upd (upd (upd (upd (fun _ => 0) (0 : Int32).toNatClampNeg 20) (0 + 1 : Int32).toNatClampNeg 20) ((0 + 1) + 1 : Int32).toNatClampNeg 20) (((0 + 1) + 1) + 1 : Int32).toNatClampNeg 20))), (b 4, .inl (cy 0, 4, .inl (upd (upd (upd (upd (fun _ => 0) (0 : Int32).toNatClampNeg 63) (0 + 1 : Int32).toNatClampNeg 63) ((0 + 1) + 1 : Int32).toNatClampNeg 63) (((0 + 1) + 1) + 1 : Int32).toNatClampNeg 63))), (b 5, .inl (cy 0, 8, .inl (fun _ => 0))), (b 6, .inl (cy 0, 8, .inl (fun _ => 0))), (b 7, .inl (cy 0, 8, .inl (fun _ => 0))), (b 8, .inl (cy 0, 6, .inl (fun _ => 0))), (b 9, .inl (cy 0, 60, .inl (fun _ => 0))), (b 10, .inl (cy 0, 60, .inl (fun _ => 0))), (b 11, .inl (cy 0, 60, .inl (fun _ => 0))), (b 12, .inl (cy 0, 60, .inl (fun _ => 0))), (b 13, .inl (cy 0, 60, .inl (fun _ => 0))), (b 14, .inl (cy 0, 16, .inl (fun _ => 0))), (b 15, .inl (cy 0, 6, .inl (fun _ => 0))), (b 16, .inl (cy 0, 720, .inl (fun _ => 0))), (b 17, .inl (cy 0, 15, .inl (fun _ => 0))), (b 18, .inl (cy 0, 15, .inl (fun _ => 0))), (b 19, .inl (cy 0, 3, .inl (fun _ => 0))), (b 20, .inl (cy 2, 1000, .inl (fun _ => 0))), (b 21, .inl (cy 0, 100, .inl (fun _ => 0))), (b 22, .inl (cy 2, 2, .inl (fun _ => 0)))] : va_W) = _
  rw [e4M, e4M, e4M, onM]
