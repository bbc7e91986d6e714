/-! one act told: class and reference -/
set_option maxHeartbeats 1000000 in
theorem step_CM {o pc rd hid kd pl ot wa nu w a b v W wA wW : Int32} {ey co th rw_ : Nat → Int32} {e : Nat} (h : TT o pc rd ey co th rw_ hid) (hA : AR kd pl ot wa nu w a b v) (he : e < 60) (hw : wA = -6 ∨ ∃ k, k < 2 ^ 31 ∧ wA = nI k) :
    (∃ y, 1 ≤ y ∧ y ≤ 4 ∧ f_L_step (nI e) (-6) (-6) W wA wW o pc rd ey co th kd pl ot wa nu = some (nI e, nI e, nI y, W, wA, wW, o, pc, rd, co, th) ∧ f_M_whyNot w a b v hid rd rw_ co = some (nI y)) ∨
    (∃ (W' wA' wW' o' pc' rd' : Int32) (co' th' : Nat → Int32) (hid' : Int32) (rw' : Nat → Int32), f_L_step (nI e) (-6) (-6) W wA wW o pc rd ey co th kd pl ot wa nu = some (nI (e + 1), -6, -6, W', wA', wW', o', pc', rd', co', th') ∧ f_M_whyNot w a b v hid rd rw_ co = some 0 ∧
      (∀ ac one oth mu : Nat → Int32, ac e = w → one e = a → oth e = b → mu e = v → f_M_goOne (nI e) hid rd W wA wW rw_ ey co th ac one oth mu = some (hid', rd', W', wA', wW', rw', co', th')) ∧ TT o' pc' rd' ey co' th' rw' hid' ∧ (wA' = -6 ∨ ∃ k, k < 2 ^ 31 ∧ wA' = nI k)) := by
  obtain ⟨y, hy4, hyC, hyM⟩ := whyNot_TT h hA
  by_cases hy0 : y = 0
  · subst hy0
    right
    obtain ⟨yw, o', pc', rd', co', th', hid', rw', hyw, hisW, hperf, hhap, hT'⟩ := act_TT h hA hyC W
    obtain ⟨pp, hpC, hpM, hpp⟩ := peaPlace_TT h
    obtain ⟨pp', hpC', hpM', hpp'⟩ := peaPlace_TT hT'
    have hq : pp = -6 ∨ ∃ q, q < 6 ∧ pp = nI q := hpp.elim (fun z => Or.inl z.2) Or.inr
    have hq' : pp' = -6 ∨ ∃ q, q < 6 ∧ pp' = nI q := hpp'.elim (fun z => Or.inl z.2) Or.inr
    have c1 := wrongC (th := th) hpC
    have m1 := (wrongM (th := th) hpM hq).1
    have c2 := wrongC (th := th') hpC'
    have m2 := (wrongM (th := th') hpM' hq').1
    obtain ⟨b1, hb1, e1⟩ := wq_lt pp th
    obtain ⟨b2, hb2, e2⟩ := wq_lt pp' th'
    obtain ⟨x, hx, ex⟩ := new_lt hb2 hb1
    rw [e1] at c1 m1
    rw [e2] at c2 m2
    have hnote := note_nI (x := x) (e := e) (wA := wA) (wW := wW) hx (by omega) hw
    refine ⟨if yw = 0 then W else W + 1, (if x = 0 then (wA, wW) else if wA = -6 then (nI e, nI (low4 x)) else (wA, wW)).1, (if x = 0 then (wA, wW) else if wA = -6 then (nI e, nI (low4 x)) else (wA, wW)).2, o', pc', rd', co', th', hid', rw', ?_, hyM, ?_, hT', ?_⟩
    · have hj : ∀ V : Int32, jn_L_step_54 (nI e) (-6) (-6) V wA wW o pc rd ey co th kd pl ot wa nu = some (nI (e + 1), -6, -6, V, (if x = 0 then (wA, wW) else if wA = -6 then (nI e, nI (low4 x)) else (wA, wW)).1, (if x = 0 then (wA, wW) else if wA = -6 then (nI e, nI (low4 x)) else (wA, wW)).2, o', pc', rd', co', th') := by
        intro V
        unfold jn_L_step_54
        rw [bind_some' c1, bind_some' hperf, bind_some' c2, ex, bind_some' hnote, nI_1]
      unfold f_L_step
      rw [bind_some' hyC, if_pos nI_0, bind_some' hisW]
      rcases hyw with rfl | rfl
      · rw [if_pos rfl, if_pos rfl]; exact hj W
      · rw [if_neg (by decide), if_neg (by decide)]; exact hj (W + 1)
    · intro ac one oth mu h1 h2 h3 h4
      unfold f_M_goOne
      rw [bind_some' m1, kx_nI he (by decide), kx_nI he (by decide), kx_nI he (by decide), kx_nI he (by decide), nI_clamp (by omega), h1, h2, h3, h4, bind_some' hhap, bind_some' m2, ex]
      by_cases z : x = 0
      · subst z
        rw [if_pos nI_0, if_pos rfl]
      · rw [if_neg (show ¬ nI x = 0 from nI_ne0 (by omega) (by omega)), if_neg z]
        rcases hw with rfl | ⟨k, hk, rfl⟩
        · rw [if_neg (by decide), if_pos rfl, bind_some' (leastOf_nI hx z)]
        · rw [if_pos (nI_pos' hk), if_neg (nI_ne_m6 hk)]
    · by_cases z : x = 0
      · rw [if_pos z]; exact hw
      · rw [if_neg z]
        by_cases z2 : wA = -6
        · rw [if_pos z2]; exact Or.inr ⟨e, by omega, rfl⟩
        · rw [if_neg z2]; exact hw
  · left
    refine ⟨y, by omega, hy4, ?_, hyM⟩
    unfold f_L_step
    rw [bind_some' hyC, if_neg (show ¬ nI y = 0 from nI_ne0 (by omega) (by omega))]
set_option maxHeartbeats 1000000 in
theorem rounds_CM {cnt n : Nat} {sg : Nat → Int32} {pos : Nat → Nat} {ac one oth mu ey : Nat → Int32} {q0 q1 q2 : Int32} {q3 q4 q5 : Nat → Int32} (hc : cnt ≤ 60) (hD : DONE sg n pos ac one oth mu) (hn : cnt = pos n) :
    ∀ (k e : Nat) (W wA wW o pc rd kd pl ot wa nu : Int32) (co th rw_ : Nat → Int32) (hid : Int32), e + k = n → TT o pc rd ey co th rw_ hid → (wA = -6 ∨ ∃ k, k < 2 ^ 31 ∧ wA = nI k) → ∀ m, k + 1 < m →
    ∃ (A B Y W' wA' wW' o' pc' rd' : Int32) (co' th' : Nat → Int32) (hid' : Int32) (rw' : Nat → Int32) (g1 g2 g3 g4 g5 : Int32),
      it18 (bd_L_followText_10 ey q0 q1 q2 q3 q4 q5 (nI cnt) sg) m (nI (pos e)) (nI e) (nI e) (-6) (-6) W wA wW o pc rd co th kd pl ot wa nu = some (A, B, Y, W', wA', wW', o', pc', rd', ey, co', th', g1, g2, g3, g4, g5) ∧
      it11 (bd_M_goRounds_31 (nI n) ey ac one oth mu) m (nI e) hid rd W (-6) (-6) wA wW rw_ co th = some (hid', rd', W', B, Y, wA', wW', rw', co', th') ∧ TT o' pc' rd' ey co' th' rw' hid' ∧ ((B = -6 ∧ Y = -6 ∧ A = nI n) ∨ ∃ e' y, e' < 60 ∧ 1 ≤ y ∧ y ≤ 4 ∧ B = nI e' ∧ Y = nI y) := by
  have hnc : ∀ e, e < n → pos e < cnt := by
    have key : ∀ k e, e + k = n → 0 < k → pos e < pos n := by
      intro k
      induction k with
      | zero => intro e _ h; omega
      | succ k ih =>
        intro e he _
        obtain ⟨L, h1, h2, -⟩ := hD.2 e (by omega)
        by_cases z : k = 0
        · have : e + 1 = n := by omega
          rw [← this, h2]; omega
        · have := ih (e + 1) (by omega) (by omega)
          omega
    intro e he
    rw [hn]
    exact key (n - e) e (by omega) (by omega)
  have hn60 : n ≤ 60 := by
    have := hD.le n (Nat.le_refl n)
    omega
  intro k
  induction k with
  | zero =>
    intro e W wA wW o pc rd kd pl ot wa nu co th rw_ hid hk hT hw m hm
    obtain ⟨m, rfl⟩ : ∃ j, m = j + 1 := ⟨m - 1, by omega⟩
    have hen : e = n := by omega
    subst hen
    refine ⟨nI e, -6, -6, W, wA, wW, o, pc, rd, co, th, hid, rw_, kd, pl, ot, wa, nu, ?_, ?_, hT, Or.inl ⟨rfl, rfl, rfl⟩⟩
    · show bd_L_followText_10 ey q0 q1 q2 q3 q4 q5 (nI cnt) sg (it18 (bd_L_followText_10 ey q0 q1 q2 q3 q4 q5 (nI cnt) sg) m) (nI (pos e)) (nI e) (nI e) (-6) (-6) W wA wW o pc rd co th kd pl ot wa nu = _
      unfold bd_L_followText_10
      rw [if_pos (show nI cnt ≤ nI (pos e) from nI_le (by omega) (by omega))]
      split <;> rfl
    · show bd_M_goRounds_31 (nI e) ey ac one oth mu (it11 (bd_M_goRounds_31 (nI e) ey ac one oth mu) m) (nI e) hid rd W (-6) (-6) wA wW rw_ co th = _
      unfold bd_M_goRounds_31
      rw [if_pos (nI_le (Nat.le_refl e) (by omega))]
  | succ k ih =>
    intro e W wA wW o pc rd kd pl ot wa nu co th rw_ hid hk hT hw m hm
    obtain ⟨m, rfl⟩ : ∃ j, m = j + 1 := ⟨m - 1, by omega⟩
    have hen : e < n := by omega
    have hpe := hnc e hen
    obtain ⟨L, hL1, hL2, hact⟩ := hD.2 e hen
    have hpL : pos e + L ≤ cnt := by
      rw [← hL2]
      by_cases z : e + 1 = n
      · rw [z]; omega
      · have := hnc (e + 1) (by omega); omega
    obtain ⟨kd', pl', ot', wa', nu', hread, hAR⟩ := readAct_AR (kd := kd) (pl := pl) (ot := ot) (wa := wa) (nu := nu) hact hpL hc
    have eC : it18 (bd_L_followText_10 ey q0 q1 q2 q3 q4 q5 (nI cnt) sg) (m + 1) (nI (pos e)) (nI e) (nI e) (-6) (-6) W wA wW o pc rd co th kd pl ot wa nu = (f_L_step (nI e) (-6) (-6) W wA wW o pc rd ey co th kd' pl' ot' wa' nu').bind (fun u => it18 (bd_L_followText_10 ey q0 q1 q2 q3 q4 q5 (nI cnt) sg) m (nI (pos (e + 1))) (nI (e + 1)) u.1 u.2.1 u.2.2.1 u.2.2.2.1 u.2.2.2.2.1 u.2.2.2.2.2.1 u.2.2.2.2.2.2.1 u.2.2.2.2.2.2.2.1 u.2.2.2.2.2.2.2.2.1 u.2.2.2.2.2.2.2.2.2.1 u.2.2.2.2.2.2.2.2.2.2 kd' pl' ot' wa' nu') := by
      show bd_L_followText_10 ey q0 q1 q2 q3 q4 q5 (nI cnt) sg (it18 (bd_L_followText_10 ey q0 q1 q2 q3 q4 q5 (nI cnt) sg) m) (nI (pos e)) (nI e) (nI e) (-6) (-6) W wA wW o pc rd co th kd pl ot wa nu = _
      unfold bd_L_followText_10
      rw [if_neg (show ¬ (60 : Int32) ≤ nI e from nI_ge (b := 60) (by omega) (by decide)), if_neg (nI_ge hpe (by omega)), if_pos rfl, bind_some' hread, nI_add, nI_1, ← hL2]
    have eM : it11 (bd_M_goRounds_31 (nI n) ey ac one oth mu) (m + 1) (nI e) hid rd W (-6) (-6) wA wW rw_ co th = (f_M_whyNot (ac e) (one e) (oth e) (mu e) hid rd rw_ co).bind (fun u => if u ≤ 0 then jn_M_goRounds_86 (it11 (bd_M_goRounds_31 (nI n) ey ac one oth mu) m) (nI e) u (-6) hid rd (nI n) W (-6) (-6) wA wW rw_ ey co th ac one oth mu else jn_M_goRounds_86 (it11 (bd_M_goRounds_31 (nI n) ey ac one oth mu) m) (nI e) u (nI e) hid rd (nI n) W (-6) (-6) wA wW rw_ ey co th ac one oth mu) := by
      show bd_M_goRounds_31 (nI n) ey ac one oth mu (it11 (bd_M_goRounds_31 (nI n) ey ac one oth mu) m) (nI e) hid rd W (-6) (-6) wA wW rw_ co th = _
      unfold bd_M_goRounds_31
      rw [if_neg (nI_ge hen (by omega)), if_neg (by decide), kx_nI (by omega) (by decide), kx_nI (by omega) (by decide), kx_nI (by omega) (by decide), kx_nI (by omega) (by decide), nI_clamp (by omega)]
    rcases step_CM (W := W) (wW := wW) hT hAR (show e < 60 by omega) hw with ⟨y, hy1, hy4, hsC, hsM⟩ | ⟨W', wA', wW', o', pc', rd', co', th', hid', rw', hsC, hsM, hgo, hT', hw'⟩
    · obtain ⟨m, rfl⟩ : ∃ j, m = j + 1 := ⟨m - 1, by omega⟩
      refine ⟨nI e, nI e, nI y, W, wA, wW, o, pc, rd, co, th, hid, rw_, kd', pl', ot', wa', nu', ?_, ?_, hT, Or.inr ⟨e, y, by omega, hy1, hy4, rfl, rfl⟩⟩
      · rw [eC, bind_some' hsC]
        show bd_L_followText_10 ey q0 q1 q2 q3 q4 q5 (nI cnt) sg (it18 (bd_L_followText_10 ey q0 q1 q2 q3 q4 q5 (nI cnt) sg) m) (nI (pos (e + 1))) (nI (e + 1)) (nI e) (nI e) (nI y) W wA wW o pc rd co th kd' pl' ot' wa' nu' = _
        unfold bd_L_followText_10
        rw [if_neg (show ¬ nI e = -6 from nI_ne_m6 (by omega))]
        split
        · rfl
        · split <;> rfl
      · rw [eM, bind_some' hsM, if_neg (show ¬ nI y ≤ 0 from nI_nle (by omega) (by omega))]
        unfold jn_M_goRounds_86
        rw [if_neg (show ¬ nI y ≤ 0 from nI_nle (by omega) (by omega))]
        unfold jn_M_goRounds_100
        rw [if_neg (show ¬ nI y = 0 from nI_ne0 (by omega) (by omega)), nI_1]
        show bd_M_goRounds_31 (nI n) ey ac one oth mu (it11 (bd_M_goRounds_31 (nI n) ey ac one oth mu) m) (nI (e + 1)) hid rd W (nI e) (nI y) wA wW rw_ co th = _
        unfold bd_M_goRounds_31
        rw [if_pos (nI_pos' (by omega))]
        split <;> rfl
    · obtain ⟨A, B, Y, W2, wA2, wW2, o2, pc2, rd2, co2, th2, hid2, rw2, g1, g2, g3, g4, g5, r1, r2, r3, r4⟩ := ih (e + 1) W' wA' wW' o' pc' rd' kd' pl' ot' wa' nu' co' th' rw' hid' (by omega) hT' hw' m (by omega)
      refine ⟨A, B, Y, W2, wA2, wW2, o2, pc2, rd2, co2, th2, hid2, rw2, g1, g2, g3, g4, g5, ?_, ?_, r3, r4⟩
      · rw [eC, bind_some' hsC]
        exact r1
      · rw [eM, bind_some' hsM, if_pos (by decide)]
        unfold jn_M_goRounds_86
        rw [if_pos (by decide)]
        unfold jn_M_goRounds_100
        rw [if_pos rfl, bind_some' (hgo ac one oth mu rfl rfl rfl rfl), nI_1]
        exact r2
