/-! cups, watcher, say, told, weigh: class and reference -/
theorem trow_chk : chk6 (fun a b c d e f => decide (f_O_toRow (or6 a b c d e f) = f_M_rowNow (on6 a b c d e f)) && (f_M_rowNow (on6 a b c d e f)).isSome) = true := by decide +kernel
theorem trow {a b c d e f : Nat} (hp : P6 a b c d e f) : ∃ r, f_O_toRow (or6 a b c d e f) = some r ∧ f_M_rowNow (on6 a b c d e f) = some r := by
  have h := (Bool.and_eq_true _ _).mp (chk6_use trow_chk hp)
  obtain ⟨r, hr⟩ := Option.isSome_iff_exists.mp h.2
  exact ⟨r, by rw [of_decide_eq_true h.1]; exact hr, hr⟩
theorem cups_copy {p2 r hid : Int32} {D rw_ : Nat → Int32} (z : Zn 6 D) (z2 : Zn 6 rw_) : it2 (bd_M_cups_35 p2 r hid D) 1100 0 rw_ = if 0 ≤ p2 then some (r, p2, D, D) else some (r, (-6), D, D) := by
  have h : it2 (bd_M_cups_35 p2 r hid D) 1100 0 rw_ = if 0 ≤ p2 then some (r, p2, upd (upd (upd (upd (upd (upd rw_ 0 (D 0)) 1 (D 1)) 2 (D 2)) 3 (D 3)) 4 (D 4)) 5 (D 5), D) else some (r, (-6), upd (upd (upd (upd (upd (upd rw_ 0 (D 0)) 1 (D 1)) 2 (D 2)) 3 (D 3)) 4 (D 4)) 5 (D 5), D) := rfl
  rw [h, upd6, fill_eq z z2]
set_option maxHeartbeats 1000000 in
theorem op_cups {o pc rd hid : Int32} {ey co th rw_ dd : Nat → Int32} (p1 p2 : Int32) (hT : TT o pc rd ey co th rw_ hid) (hz : Zn 6 dd) : ∃ (r o' pc' hid' : Int32) (rw' dd' : Nat → Int32), f_C_cups p1 p2 o pc = some (r, o', pc') ∧ f_M_cups p1 p2 hid rw_ dd = some (r, hid', rw', dd') ∧ Zn 6 dd' ∧ TT o' pc' rd ey co th rw' hid' := by
  obtain ⟨z6, -⟩ := hT.zs
  obtain ⟨⟨a1, b1, c1, d1, e1, f1, hp1, rfl, rfl⟩, hpea, hrest⟩ := id hT
  obtain ⟨r, hrC, hrM⟩ := trow hp1
  have hin : f_M_in (Int32.toInt64 p2) (-1) 5 = f_C_isWithin p2 (-1) 5 := by
    rw [show (-1 : Int64) = Int32.toInt64 (-1) from by decide, show (5 : Int64) = Int32.toInt64 5 from by decide, in_eq]
  have hm1 : (-1 : Int32).toInt = -1 := by decide
  have h05 : (5 : Int32).toInt = 5 := by decide
  have h00 : (0 : Int32).toInt = 0 := by decide
  -- the pea's place is one, or the hand
  have hgood : ∀ pc' hid' : Int32, ((pc' = -1 ∧ hid' = -6) ∨ ∃ k, k < 6 ∧ pc' = nI k ∧ hid' = nI k) → p2 = pc' → (if 0 ≤ p2 then p2 else (-6)) = hid' → f_C_isWithin p2 (-1) 5 = some 1 → (f_C_cups p1 p2 (or6 a1 b1 c1 d1 e1 f1) pc = jn_C_cups_14 p1 p2 (or6 a1 b1 c1 d1 e1 f1) pc) →
      ∃ (r o' pc' hid' : Int32) (rw' dd' : Nat → Int32), f_C_cups p1 p2 (or6 a1 b1 c1 d1 e1 f1) pc = some (r, o', pc') ∧ f_M_cups p1 p2 hid (on6 a1 b1 c1 d1 e1 f1) dd = some (r, hid', rw', dd') ∧ Zn 6 dd' ∧ TT o' pc' rd ey co th rw' hid' := by
    intro pc' hid' hpe ep eh hw hC
    rw [hC]
    unfold jn_C_cups_14 f_M_cups
    rw [hin, bind_some' hw, if_neg (by decide)]
    rcases readRow_cases p1 hz with ⟨a, b, c, d, e, f, hp, h1, h2⟩ | ⟨h1, D, hD, h2⟩
    · refine ⟨r, or6 a b c d e f, p2, hid', on6 a b c d e f, on6 a b c d e f, ?_, ?_, on6_Z, ⟨_, _, _, _, _, _, hp, rfl, rfl⟩, by rw [ep]; exact hpe, hrest⟩
      · rw [bind_some' h1, if_neg (or6_ne hp), bind_some' hrC]
      · rw [bind_some' h2, if_neg (show ¬ (1 : Int32) = 0 by decide), bind_some' hrM, cups_copy on6_Z z6]
        by_cases q : 0 ≤ p2
        · rw [if_pos q] at eh ⊢; rw [eh]
        · rw [if_neg q] at eh ⊢; rw [eh]
    · refine ⟨-2, or6 a1 b1 c1 d1 e1 f1, pc, hid, on6 a1 b1 c1 d1 e1 f1, D, ?_, ?_, hD, hT⟩
      · rw [bind_some' h1, if_pos rfl]
      · rw [bind_some' h2, if_pos rfl]
  by_cases hm : p2 = -1
  · refine hgood (-1) (-6) (Or.inl ⟨rfl, rfl⟩) hm (by rw [hm]; rfl) (by rw [hm]; rfl) ?_
    unfold f_C_cups
    rw [if_pos hm]
  · rcases place_cases p2 with ⟨i, hi, ei, h1, h2⟩ | ⟨h1, h2⟩
    · refine hgood (nI i) (nI i) (Or.inr ⟨i, hi, rfl, rfl⟩) ei (by rw [ei, if_pos (nI_pos' (by omega))]) ?_ ?_
      · rw [ei]
        unfold f_C_isWithin
        rw [if_neg (by rw [fa_lt, nI_toInt (by omega)]; omega), if_neg (by rw [fa_lt, nI_toInt (by omega)]; omega)]
      · unfold f_C_cups
        rw [if_neg hm, bind_some' h1, if_neg (by decide)]
    · have hw : f_C_isWithin p2 (-1) 5 = some 0 := by
        unfold f_C_isPlace at h1
        unfold f_C_isWithin
        by_cases q0 : p2 < 0
        · have : p2 < -1 := by
            rw [fa_lt] at q0 ⊢
            have hne : p2.toInt ≠ (-1 : Int32).toInt := fun z => hm ((fa_eq _ _).mpr z)
            omega
          rw [if_pos this]
        · rw [if_neg q0] at h1
          by_cases q6 : (6 : Int32) ≤ p2
          · have h06 : (6 : Int32).toInt = 6 := by decide
            rw [if_neg (by rw [fa_lt] at q0 ⊢; omega), if_pos (by rw [fa_le] at q6; rw [fa_lt]; omega)]
          · rw [if_neg q6] at h1
            exact absurd (Option.some.inj h1) (by decide)
      refine ⟨-1, or6 a1 b1 c1 d1 e1 f1, pc, hid, on6 a1 b1 c1 d1 e1 f1, dd, ?_, ?_, hz, hT⟩
      · unfold f_C_cups
        rw [if_neg hm, bind_some' h1, if_pos rfl]
      · unfold f_M_cups
        rw [hin, bind_some' hw, if_pos rfl]
theorem op_watcher {o pc rd hid : Int32} {ey co th rw_ : Nat → Int32} (p1 p2 p3 p4 : Int32) (hT : TT o pc rd ey co th rw_ hid) : ∃ (r : Int32) (ey' co' th' : Nat → Int32), f_C_watcher p1 p2 p3 p4 ey co th = some (r, ey', co', th') ∧ f_M_watcher p1 p2 p3 p4 ey co th = some (r, ey', co', th') ∧ TT o pc rd ey' co' th' rw_ hid := by
  have i2 := inL_eq p2 (lo := 1) (hi := 9) (by decide) (by decide)
  have i3 := inL_eq p3 (lo := 0) (hi := 999) (by decide) (by decide)
  have i4 := inL_eq p4 (lo := 1) (hi := 63) (by decide) (by decide)
  unfold f_C_watcher f_M_watcher
  rcases watcher_cases p1 with ⟨w, hw, rfl, h1, h2⟩ | ⟨h1, h2⟩
  · rw [bind_some' h1, bind_some' h2, if_neg (by decide), if_neg (by decide)]
    rcases within_cases p2 (lo := 1) (hi := 9) (by decide) (by decide) with ⟨x, -, -, rfl, w2⟩ | w2
    · rw [w2] at i2
      rw [bind_some' (show f_C_isWithin (nI x) 1 9 = some 1 from w2), bind_some' (show f_M_in (Int32.toInt64 (nI x)) 1 9 = some 1 from i2), if_neg (by decide), if_neg (by decide)]
      rcases within_cases p3 (lo := 0) (hi := 999) (by decide) (by decide) with ⟨y, -, hy, rfl, w3⟩ | w3
      · rw [w3] at i3
        rw [bind_some' (show f_C_isWithin (nI y) 0 999 = some 1 from w3), bind_some' (show f_M_in (Int32.toInt64 (nI y)) 0 999 = some 1 from i3), if_neg (by decide), if_neg (by decide)]
        rcases within_cases p4 (lo := 1) (hi := 63) (by decide) (by decide) with ⟨t, -, ht, rfl, w4⟩ | w4
        · rw [w4] at i4
          rw [bind_some' (show f_C_isWithin (nI t) 1 63 = some 1 from w4), bind_some' (show f_M_in (Int32.toInt64 (nI t)) 1 63 = some 1 from i4), if_neg (by decide), if_neg (by decide), bind_some' (coinOf_nI hw)]
          have hset : f_T_setWatcher (nI w) (nI x) (nI y) (nI t) ey co th = some (upd ey w (nI x), upd co w (nI y), upd th w (nI t)) := by
            unfold f_T_setWatcher
            rw [bind_some' h1, if_neg (by decide), kx_nI hw (by decide), kx_nI hw (by decide), kx_nI hw (by decide), nI_clamp (by omega)]
          rw [bind_some' hset, kx_nI hw (by decide), kx_nI hw (by decide), kx_nI hw (by decide), kx_nI hw (by decide), nI_clamp (by omega)]
          obtain ⟨q1, q2, q3, ⟨z1, z2, z3⟩, q4, q5⟩ := hT
          refine ⟨_, _, _, _, rfl, rfl, q1, q2, q3, ⟨z1.upd hw, z2.upd hw, z3.upd hw⟩, fun v hv => ?_, fun v hv => ?_⟩
          · by_cases z : v = w
            · subst z; exact ⟨y, hy, upd_at⟩
            · show ∃ q, q ≤ 999 ∧ upd co w (nI y) v = nI q
              rw [upd_ne z]; exact q4 v hv
          · by_cases z : v = w
            · subst z; exact ⟨t, by omega, upd_at⟩
            · show ∃ q, q < 64 ∧ upd th w (nI t) v = nI q
              rw [upd_ne z]; exact q5 v hv
        · rw [w4] at i4
          rw [bind_some' (show f_C_isWithin p4 1 63 = some 0 from w4), bind_some' (show f_M_in (Int32.toInt64 p4) 1 63 = some 0 from i4), if_pos rfl, if_pos rfl]
          exact ⟨_, _, _, _, rfl, rfl, hT⟩
      · rw [w3] at i3
        rw [bind_some' (show f_C_isWithin p3 0 999 = some 0 from w3), bind_some' (show f_M_in (Int32.toInt64 p3) 0 999 = some 0 from i3), if_pos rfl, if_pos rfl]
        exact ⟨_, _, _, _, rfl, rfl, hT⟩
    · rw [w2] at i2
      rw [bind_some' (show f_C_isWithin p2 1 9 = some 0 from w2), bind_some' (show f_M_in (Int32.toInt64 p2) 1 9 = some 0 from i2), if_pos rfl, if_pos rfl]
      exact ⟨_, _, _, _, rfl, rfl, hT⟩
  · rw [bind_some' h1, bind_some' h2, if_pos rfl, if_pos rfl]
    exact ⟨_, _, _, _, rfl, rfl, hT⟩
/-- the pad: so many signs, each of 33 to 126 -/
def PAD (pc : Int32) (sg : Nat → Int32) : Prop := ∃ cnt, cnt ≤ 60 ∧ pc = nI cnt ∧ ∀ k, k < cnt → ∃ s, s < 127 ∧ sg k = nI s
theorem op_say {c : Int32} {sg : Nat → Int32} (p1 : Int32) (h : PAD c sg) : ∃ (r c' : Int32) (sg' : Nat → Int32), f_C_say p1 c sg = some (r, c', sg') ∧ f_M_say p1 c sg = some (r, c', sg') ∧ PAD c' sg' := by
  obtain ⟨cnt, hc, rfl, hs⟩ := id h
  have i1 := inL_eq p1 (lo := 33) (hi := 126) (by decide) (by decide)
  unfold f_C_say f_M_say
  rcases within_cases p1 (lo := 33) (hi := 126) (by decide) (by decide) with ⟨x, -, hx, rfl, w⟩ | w
  · rw [w] at i1
    rw [bind_some' (show f_C_isWithin (nI x) 33 126 = some 1 from w), bind_some' (show f_M_in (Int32.toInt64 (nI x)) 33 126 = some 1 from i1), if_neg (by decide), if_neg (by decide)]
    unfold f_D_append
    by_cases z : cnt = 60
    · subst z
      rw [if_neg (by decide), bind_some' rfl, if_pos rfl, if_pos (by decide)]
      exact ⟨_, _, _, rfl, rfl, h⟩
    · rw [if_pos (show nI cnt < 60 from nI_lt (b := 60) (by omega) (by decide)), kx_nI (by omega) (by decide), bind_some' rfl, if_neg (show ¬ (1 : Int32) = 0 by decide), if_neg (show ¬ nI cnt = 60 from fun y => z ((nI_eq (b := 60) (by omega) (by decide)).mp y)), kx_nI (by omega) (by decide), nI_clamp (by omega), nI_1]
      refine ⟨_, _, _, rfl, rfl, cnt + 1, by omega, rfl, fun k hk => ?_⟩
      by_cases y : k = cnt
      · subst y; exact ⟨x, by omega, upd_at⟩
      · show ∃ s, s < 127 ∧ upd sg cnt (nI x) k = nI s
        rw [upd_ne y]; exact hs k (by omega)
  · rw [w] at i1
    rw [bind_some' (show f_C_isWithin p1 33 126 = some 0 from w), bind_some' (show f_M_in (Int32.toInt64 p1) 33 126 = some 0 from i1), if_pos rfl, if_pos rfl]
    exact ⟨_, _, _, rfl, rfl, h⟩
