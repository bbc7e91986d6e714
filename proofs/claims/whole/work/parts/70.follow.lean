/-! the text followed: class and reference, with what the reference keeps and puts back -/
theorem copyFrom_eq {a b c a' b' c' : Int32} {x y z x' y' z' : Nat → Int32} (hx : Zn 4 x) (hy : Zn 4 y) (hz : Zn 4 z) (hx' : Zn 4 x') (hy' : Zn 4 y') (hz' : Zn 4 z') : f_T_copyFrom a b c x y z a' b' c' x' y' z' = some (a', b', c', x', y', z') := by
  have h : f_T_copyFrom a b c x y z a' b' c' x' y' z' = some (a', b', c', upd (upd (upd (upd x 0 (x' 0)) 1 (x' 1)) 2 (x' 2)) 3 (x' 3), upd (upd (upd (upd y 0 (y' 0)) 1 (y' 1)) 2 (y' 2)) 3 (y' 3), upd (upd (upd (upd z 0 (z' 0)) 1 (z' 1)) 2 (z' 2)) 3 (z' 3)) := rfl
  rw [h, upd4, upd4, upd4, fill_eq hx' hx, fill_eq hy' hy, fill_eq hz' hz]
/-- the reference's notes of how it was -/
def KEEP (H rw_ : Nat → Int32) (hid rd : Int32) (co th : Nat → Int32) : Prop := (∀ k, k < 6 → H k = rw_ k) ∧ (∀ w, w < 4 → H (6 + w) = co w) ∧ (∀ w, w < 4 → H (10 + w) = th w) ∧ H 14 = hid ∧ H 15 = rd
theorem keepNow_K (hid rd : Int32) (rw_ co th had : Nat → Int32) : ∃ H, f_M_keepNow hid rd rw_ co th had = some H ∧ KEEP H rw_ hid rd co th := by
  refine ⟨upd (upd (upd (upd (upd (upd (upd (upd (upd (upd (upd (upd (upd (upd (upd (upd had 0 (rw_ 0)) 1 (rw_ 1)) 2 (rw_ 2)) 3 (rw_ 3)) 4 (rw_ 4)) 5 (rw_ 5)) 6 (co 0)) 10 (th 0)) 7 (co 1)) 11 (th 1)) 8 (co 2)) 12 (th 2)) 9 (co 3)) 13 (th 3)) 14 hid) 15 rd, rfl, lt6 rfl rfl rfl rfl rfl rfl, lt4 rfl rfl rfl rfl, lt4 rfl rfl rfl rfl, rfl, rfl⟩
theorem back_K {v hid rd hid1 rd1 : Int32} {H rw_ co th rw1 co1 th1 : Nat → Int32} (hK : KEEP H rw_ hid rd co th) (z6 : Zn 6 rw_) (z6' : Zn 6 rw1) (zc : Zn 4 co) (zc' : Zn 4 co1) (zt : Zn 4 th) (zt' : Zn 4 th1) : f_M_back v hid1 rd1 rw1 co1 th1 H = some (v, hid, rd, rw_, co, th) := by
  have h : f_M_back v hid1 rd1 rw1 co1 th1 H = some (v, H 14, H 15, upd (upd (upd (upd (upd (upd rw1 0 (H 0)) 1 (H 1)) 2 (H 2)) 3 (H 3)) 4 (H 4)) 5 (H 5), upd (upd (upd (upd co1 0 (H 6)) 1 (H 7)) 2 (H 8)) 3 (H 9), upd (upd (upd (upd th1 0 (H 10)) 1 (H 11)) 2 (H 12)) 3 (H 13)) := rfl
  obtain ⟨k1, k2, k3, k4, k5⟩ := hK
  rw [h, k4, k5, k1 0 (by decide), k1 1 (by decide), k1 2 (by decide), k1 3 (by decide), k1 4 (by decide), k1 5 (by decide), show H 6 = co 0 from k2 0 (by decide), show H 7 = co 1 from k2 1 (by decide), show H 8 = co 2 from k2 2 (by decide), show H 9 = co 3 from k2 3 (by decide), show H 10 = th 0 from k3 0 (by decide), show H 11 = th 1 from k3 1 (by decide), show H 12 = th 2 from k3 2 (by decide), show H 13 = th 3 from k3 3 (by decide), upd6, upd4, upd4, fill_eq z6 z6', fill_eq zc zc', fill_eq zt zt']
theorem TT.zs {o pc rd hid : Int32} {ey co th rw_ : Nat → Int32} (h : TT o pc rd ey co th rw_ hid) : Zn 6 rw_ ∧ Zn 4 ey ∧ Zn 4 co ∧ Zn 4 th := by
  obtain ⟨⟨a, b, c, d, e, f, -, -, rfl⟩, -, -, ⟨z1, z2, z3⟩, -⟩ := h
  exact ⟨on6_Z, z1, z2, z3⟩
set_option maxHeartbeats 1000000 in
theorem follow_CM {o pc rd hid : Int32} {ey co th rw_ : Nat → Int32} {cnt : Nat} {sg : Nat → Int32} (hT : TT o pc rd ey co th rw_ hid) (hc : cnt ≤ 60) (hs : ∀ k, k < cnt → ∃ s, s < 127 ∧ sg k = nI s)
    (t1 t2 t3 t4 t5 t6 t7 t8 t9 : Int32) (te tc tt : Nat → Int32) (k1 k2 k3 k4 k5 : Int32) (ze : Zn 4 te) (zc : Zn 4 tc) (zt : Zn 4 tt) (m1 m2 m3 m4 m5 m6 : Int32) (a1 a2 a3 a4 a5 : Nat → Int32) :
    ∃ (fc A B1 Y1 W1 x1 x2 o1 pc1 rd1 : Int32) (ey1 co1 th1 : Nat → Int32) (g1 g2 g3 g4 g5 no hid2 rd2 n2 W2 B2 Y2 y1 y2 : Int32) (rw2 co2 th2 ac one oth mu H : Nat → Int32),
      f_C_followPad (nI cnt) sg o pc rd ey co th t1 t2 t3 t4 t5 t6 t7 t8 t9 te tc tt k1 k2 k3 k4 k5 = some (fc, A, B1, Y1, W1, x1, x2, o1, pc1, rd1, ey1, co1, th1, g1, g2, g3, g4, g5) ∧
      f_M_refusal hid rd (nI cnt) m1 m2 m3 m4 m5 m6 rw_ ey co th sg a1 a2 a3 a4 a5 = some (no, hid2, rd2, n2, W2, B2, Y2, y1, y2, rw2, co2, th2, ac, one, oth, mu, H) ∧
      (Zn 4 ey1 ∧ Zn 4 co1 ∧ Zn 4 th1) ∧ KEEP H rw_ hid rd co th ∧ (Zn 6 rw2 ∧ Zn 4 co2 ∧ Zn 4 th2) ∧
      ((fc = -5 ∧ no = -5) ∨ (((fc = 0 ∧ no = -6 ∧ A = n2) ∨ (fc = -3 ∧ no = -3)) ∧ W1 = W2 ∧ B1 = B2 ∧ Y1 = Y2 ∧ x1 = y1 ∧ x2 = y2 ∧ rd1 = rd2 ∧ co1 = co2 ∧ th1 = th2 ∧ ey1 = ey ∧ TT o1 pc1 rd1 ey co1 th1 rw2 hid2)) := by
  obtain ⟨z6, z4e, z4c, z4t⟩ := hT.zs
  obtain ⟨H, hH, hK⟩ := keepNow_K hid rd rw_ co th a5
  obtain ⟨x, n, ac, one, oth, mu, hfC, hfM, hcase⟩ := fault_CM (ac := a1) (on := a2) (ot := a3) (mu := a4) (ac0 := m1) hc hs
  rcases hcase with ⟨rfl, pos, hD, hn⟩ | ⟨y, hy, rfl⟩
  · obtain ⟨A, B, Y, W', wA', wW', o', pc', rd', co', th', hid', rw', g1, g2, g3, g4, g5, r1, r2, r3, r4⟩ := rounds_CM (q0 := o) (q1 := pc) (q2 := rd) (q3 := ey) (q4 := co) (q5 := th) hc hD hn n 0 0 (-6) (-6) o pc rd k1 k2 k3 k4 k5 co th rw_ hid (by omega) hT (Or.inl rfl) 1100 (by have := hD.le n (Nat.le_refl n); omega)
    rw [hD.1] at r1
    have hbeg : f_L_begin t1 t2 t3 t4 t5 t6 t7 t8 t9 te tc tt o pc rd ey co th = some (0, (-6), (-6), 0, (-6), (-6), o, pc, rd, ey, co, th) := by
      unfold f_L_begin
      rw [bind_some' (copyFrom_eq ze zc zt z4e z4c z4t)]
    have hfol : f_L_followText t1 t2 t3 t4 t5 t6 t7 t8 t9 te tc tt k1 k2 k3 k4 k5 o pc rd ey co th (nI cnt) sg = some (A, B, Y, W', wA', wW', o', pc', rd', ey, co', th', g1, g2, g3, g4, g5) := by
      unfold f_L_followText
      rw [bind_some' hbeg]
      dsimp only
      exact r1
    have hgo : f_M_goRounds hid rd (nI n) m2 m3 m4 m5 m6 rw_ ey co th ac one oth mu = some (hid', rd', W', B, Y, wA', wW', rw', co', th') := by
      unfold f_M_goRounds
      exact r2
    obtain ⟨q6, -, q4c, q4t⟩ := r3.zs
    have hCp : f_C_followPad (nI cnt) sg o pc rd ey co th t1 t2 t3 t4 t5 t6 t7 t8 t9 te tc tt k1 k2 k3 k4 k5 = if B = (-6) then some (0, A, B, Y, W', wA', wW', o', pc', rd', ey, co', th', g1, g2, g3, g4, g5) else some ((-3), A, B, Y, W', wA', wW', o', pc', rd', ey, co', th', g1, g2, g3, g4, g5) := by
      unfold f_C_followPad
      rw [bind_some' hfC, if_pos rfl, bind_some' hfol]
    have hMp : f_M_refusal hid rd (nI cnt) m1 m2 m3 m4 m5 m6 rw_ ey co th sg a1 a2 a3 a4 a5 = if B < 0 then some ((-6), hid', rd', nI n, W', B, Y, wA', wW', rw', co', th', ac, one, oth, mu, H) else some ((-3), hid', rd', nI n, W', B, Y, wA', wW', rw', co', th', ac, one, oth, mu, H) := by
      unfold f_M_refusal
      rw [bind_some' hH, bind_some' hfM, if_pos (show (-6 : Int32) < 0 by decide), bind_some' hgo]
    rcases r4 with ⟨rfl, rfl, rfl⟩ | ⟨e', y, he', hy1, hy4, rfl, rfl⟩
    · rw [if_pos rfl] at hCp
      rw [if_pos (show (-6 : Int32) < 0 by decide)] at hMp
      exact ⟨_, _, _, _, _, _, _, _, _, _, _, _, _, _, _, _, _, _, _, _, _, _, _, _, _, _, _, _, _, _, _, _, _, _, _, hCp, hMp, ⟨z4e, q4c, q4t⟩, hK, ⟨q6, q4c, q4t⟩, Or.inr ⟨Or.inl ⟨rfl, rfl, rfl⟩, rfl, rfl, rfl, rfl, rfl, rfl, rfl, rfl, rfl, r3⟩⟩
    · rw [if_neg (nI_ne_m6 (by omega))] at hCp
      rw [if_neg (nI_pos (by omega))] at hMp
      exact ⟨_, _, _, _, _, _, _, _, _, _, _, _, _, _, _, _, _, _, _, _, _, _, _, _, _, _, _, _, _, _, _, _, _, _, _, hCp, hMp, ⟨z4e, q4c, q4t⟩, hK, ⟨q6, q4c, q4t⟩, Or.inr ⟨Or.inr ⟨rfl, rfl⟩, rfl, rfl, rfl, rfl, rfl, rfl, rfl, rfl, rfl, r3⟩⟩
  · have hCp : f_C_followPad (nI cnt) sg o pc rd ey co th t1 t2 t3 t4 t5 t6 t7 t8 t9 te tc tt k1 k2 k3 k4 k5 = some ((-5), t1, t2, t3, t4, t5, t6, t7, t8, t9, te, tc, tt, k1, k2, k3, k4, k5) := by
      unfold f_C_followPad
      rw [bind_some' hfC, if_neg (nI_ne_m6 (by omega))]
    have hMp : f_M_refusal hid rd (nI cnt) m1 m2 m3 m4 m5 m6 rw_ ey co th sg a1 a2 a3 a4 a5 = some ((-5), hid, rd, nI n, m2, m3, m4, m5, m6, rw_, co, th, ac, one, oth, mu, H) := by
      unfold f_M_refusal
      rw [bind_some' hH, bind_some' hfM, if_neg (nI_pos (by omega))]
    exact ⟨_, _, _, _, _, _, _, _, _, _, _, _, _, _, _, _, _, _, _, _, _, _, _, _, _, _, _, _, _, _, _, _, _, _, _, hCp, hMp, ⟨ze, zc, zt⟩, hK, ⟨z6, z4c, z4t⟩, Or.inl ⟨rfl, rfl⟩⟩
