/-! years by draws: class and reference -/
theorem draw_C {x : Nat} (hx : x < 65537) : ((75 * nI x) + 74) - ((75 * nI x) + 74) / 65537 * 65537 = nI ((75 * x + 74) % 65537) := by
  rw [show (75 : Int32) = nI 75 from rfl, show (74 : Int32) = nI 74 from rfl, show (65537 : Int32) = nI 65537 from rfl, pk_mul, nI_add, pk_rem (by omega) (by decide) (by decide)]
theorem draw_M {x : Nat} (hx : x < 65537) : Int64.toInt32 (((75 * (Int32.toInt64 (nI x))) + 74) - ((75 * (Int32.toInt64 (nI x))) + 74) / 65537 * 65537) = nI ((75 * x + 74) % 65537) := by
  rw [nI_l (by omega), show (75 : Int64) = lN 75 from rfl, show (74 : Int64) = lN 74 from rfl, show (65537 : Int64) = lN 65537 from rfl, lN_mul, lN_add, pk_lRem (by omega) (by decide) (by decide), lN_i]
theorem rem_nI {x d : Nat} (hx : x < 2 ^ 31) (h0 : 0 < d) (hd : d < 2 ^ 31) : nI x - nI x / nI d * nI d = nI (x % d) := pk_rem hx h0 hd
set_option maxHeartbeats 1000000 in
theorem drawn_AR {x : Nat} (hx : x < 65537) (kd pl ot wa nu hid rd W : Int32) (rw_ ey co th : Nat → Int32) : ∃ kd' pl' ot' wa' nu' w a b v, f_A_setDrawn (nI x) kd pl ot wa nu = some (kd', pl', ot', wa', nu') ∧ AR kd' pl' ot' wa' nu' w a b v ∧ f_M_drawn (nI x - nI x / 8 * 8) (nI x / 8) hid rd W rw_ ey co th = jn_M_drawn_100 w a b v hid rd W rw_ ey co th := by
  have e8 : nI x - nI x / 8 * 8 = nI (x % 8) := pk_rem (d := 8) (by omega) (by decide) (by decide)
  have d8 : nI x / 8 = nI (x / 8) := pk_div (d := 8) (by omega) (by decide) (by decide)
  have m6 : ∀ z, z < 65537 → nI z - nI z / 6 * 6 = nI (z % 6) := fun z hz => pk_rem (d := 6) (by omega) (by decide) (by decide)
  have m4 : ∀ z, z < 65537 → nI z - nI z / 4 * 4 = nI (z % 4) := fun z hz => pk_rem (d := 4) (by omega) (by decide) (by decide)
  have m9 : ∀ z, z < 65537 → nI z - nI z / 9 * 9 = nI (z % 9) := fun z hz => pk_rem (d := 9) (by omega) (by decide) (by decide)
  have d6 : ∀ z, z < 65537 → nI z / 6 = nI (z / 6) := fun z hz => pk_div (d := 6) (by omega) (by decide) (by decide)
  have d4 : ∀ z, z < 65537 → nI z / 4 = nI (z / 4) := fun z hz => pk_div (d := 4) (by omega) (by decide) (by decide)
  have d36 : ∀ z, z < 65537 → nI z / 36 = nI (z / 36) := fun z hz => pk_div (d := 36) (by omega) (by decide) (by decide)
  have hy : x / 8 < 65537 := by omega
  have h6 : x / 8 / 6 < 65537 := by omega
  have h4 : x / 8 / 4 < 65537 := by omega
  have h36 : x / 8 / 36 < 65537 := by omega
  unfold f_A_setDrawn f_M_drawn
  rw [e8, d8]
  have hb : x % 8 < 8 := Nat.mod_lt _ (by decide)
  by_cases c4 : x % 8 = 4
  · rw [c4, if_pos (show nI 4 = 4 from rfl), m6 _ hy]
    exact ⟨_, _, _, _, _, 1, _, nI (x / 8) / 6 - nI (x / 8) / 6 / 6 * 6, 1 + (nI (x / 8) / 36 - nI (x / 8) / 36 / 9 * 9), rfl, Or.inr (Or.inl ⟨rfl, rfl, _, Nat.mod_lt _ (by decide), rfl, rfl⟩), by rw [if_pos (by decide), if_pos (show nI 4 = 4 from rfl)]; unfold jn_M_drawn_38 jn_M_drawn_55 jn_M_drawn_79; rw [if_neg (by decide), if_neg (by decide), if_neg (by decide), m6 _ hy]⟩
  · by_cases c5 : x % 8 = 5
    · rw [c5, if_neg (show ¬ nI 5 = 4 by decide), if_pos (show nI 5 = 5 from rfl), m6 _ hy]
      exact ⟨_, _, _, _, _, 2, _, nI (x / 8) / 6 - nI (x / 8) / 6 / 6 * 6, 1 + (nI (x / 8) / 36 - nI (x / 8) / 36 / 9 * 9), rfl, Or.inr (Or.inr (Or.inl ⟨rfl, rfl, _, Nat.mod_lt _ (by decide), rfl, rfl⟩)), by rw [if_pos (by decide), if_neg (show ¬ nI 5 = 4 by decide), if_pos (show nI 5 = 5 from rfl)]; unfold jn_M_drawn_38 jn_M_drawn_55 jn_M_drawn_79; rw [if_neg (by decide), if_neg (by decide), if_neg (by decide), m6 _ hy]⟩
    · by_cases c6 : x % 8 = 6
      · rw [c6, if_neg (show ¬ nI 6 = 4 by decide), if_neg (show ¬ nI 6 = 5 by decide), if_pos (show nI 6 = 6 from rfl), m4 _ hy, d4 _ hy, m6 _ h4]
        exact ⟨_, _, _, _, _, _, _, _, _, rfl, Or.inr (Or.inr (Or.inr (Or.inl ⟨rfl, rfl, _, _, 1, Nat.mod_lt _ (by decide), Nat.mod_lt _ (by decide), by decide, by decide, rfl, rfl, rfl, rfl, rfl, rfl⟩))), by rw [if_pos (by decide), if_neg (show ¬ nI 6 = 4 by decide), if_neg (show ¬ nI 6 = 5 by decide), if_pos (show nI 6 = 6 from rfl)]; unfold jn_M_drawn_38 jn_M_drawn_55 jn_M_drawn_79; rw [if_pos (show nI 6 = 6 from rfl), if_pos (show nI 6 = 6 from rfl), if_pos (show nI 6 = 6 from rfl), m4 _ hy, d4 _ hy, m6 _ h4]; rfl⟩
      · by_cases c7 : x % 8 = 7
        · rw [c7, if_neg (show ¬ nI 7 = 4 by decide), if_neg (show ¬ nI 7 = 5 by decide), if_neg (show ¬ nI 7 = 6 by decide), if_pos (show nI 7 = 7 from rfl)]
          exact ⟨_, _, _, _, _, 4, nI (x / 8) - nI (x / 8) / 6 * 6, nI (x / 8) / 6 - nI (x / 8) / 6 / 6 * 6, 1 + (nI (x / 8) / 36 - nI (x / 8) / 36 / 9 * 9), rfl, Or.inr (Or.inr (Or.inr (Or.inr ⟨rfl, rfl⟩))), by rw [if_pos (by decide), if_neg (show ¬ nI 7 = 4 by decide), if_neg (show ¬ nI 7 = 5 by decide), if_neg (show ¬ nI 7 = 6 by decide)]; unfold jn_M_drawn_38 jn_M_drawn_55 jn_M_drawn_79; rw [if_neg (by decide), if_neg (by decide), if_neg (by decide)]⟩
        · have n4 : ¬ nI (x % 8) = 4 := fun z => c4 ((nI_eq (b := 4) (by omega) (by decide)).mp z)
          have n5 : ¬ nI (x % 8) = 5 := fun z => c5 ((nI_eq (b := 5) (by omega) (by decide)).mp z)
          have n6 : ¬ nI (x % 8) = 6 := fun z => c6 ((nI_eq (b := 6) (by omega) (by decide)).mp z)
          have n7 : ¬ nI (x % 8) = 7 := fun z => c7 ((nI_eq (b := 7) (by omega) (by decide)).mp z)
          have e1 : (1 : Int32) + nI (x / 8 / 36 % 9) = nI (1 + x / 8 / 36 % 9) := nI_add 1 _
          rw [if_neg n4, if_neg n5, if_neg n6, if_neg n7, m6 _ hy, d6 _ hy, m6 _ h6, d36 _ hy, m9 _ h36, e1]
          exact ⟨_, _, _, _, _, _, _, _, _, rfl, Or.inl ⟨rfl, rfl, _, _, _, Nat.mod_lt _ (by decide), Nat.mod_lt _ (by decide), by omega, by have := Nat.mod_lt (x / 8 / 36) (show 0 < 9 by decide); omega, rfl, rfl, rfl, rfl, rfl, rfl⟩, by rw [if_neg (show ¬ (4 : Int32) ≤ nI (x % 8) from nI_ge (b := 4) (by omega) (by decide))]; unfold jn_M_drawn_38 jn_M_drawn_55 jn_M_drawn_79; rw [if_neg n6, if_neg n6, if_neg n6, m6 _ hy, d6 _ hy, m6 _ h6, d36 _ hy, m9 _ h36, e1]⟩
theorem act_M {o pc rd hid w a b v W kd pl ot wa nu : Int32} {ey co th rw_ : Nat → Int32} (hT : TT o pc rd ey co th rw_ hid) (hA : AR kd pl ot wa nu w a b v) : ∃ (y W' o' pc' rd' : Int32) (co' th' : Nat → Int32) (hid' : Int32) (rw' : Nat → Int32), f_T_whyNot o pc rd co kd pl ot wa nu = some y ∧ (y = 0 → f_T_perform o pc rd ey co th kd pl ot wa nu = some (o', pc', rd', co', th')) ∧ (¬ y = 0 → o' = o ∧ pc' = pc ∧ rd' = rd ∧ co' = co ∧ th' = th) ∧ jn_M_drawn_100 w a b v hid rd W rw_ ey co th = some (hid', rd', W', rw', co', th') ∧ TT o' pc' rd' ey co' th' rw' hid' := by
  obtain ⟨y, hy4, hyC, hyM⟩ := whyNot_TT hT hA
  unfold jn_M_drawn_100
  rw [bind_some' hyM]
  by_cases z : y = 0
  · subst z
    obtain ⟨yw, o', pc', rd', co', th', hid', rw', -, -, hp, hh, hT'⟩ := act_TT hT hA hyC W
    refine ⟨nI 0, if yw = 0 then W else W + 1, o', pc', rd', co', th', hid', rw', hyC, fun _ => hp, fun q => absurd rfl q, ?_, hT'⟩
    rw [if_pos nI_0, bind_some' hh]
  · have h0 : ¬ nI y = 0 := nI_ne0 (by omega) (by omega)
    exact ⟨nI y, W, o, pc, rd, co, th, hid, rw_, hyC, fun q => absurd q h0, fun _ => ⟨rfl, rfl, rfl, rfl, rfl⟩, by rw [if_neg h0], hT⟩
set_option maxHeartbeats 1000000 in
theorem year_loop {m : Nat} {ey H : Nat → Int32} {p3 t1 t2 t3 t4 t5 t6 q0 q1 q2 : Int32} {q3 q4 q5 : Nat → Int32} (hm : m ≤ 99) :
    ∀ (k i x : Nat) (o pc rd W kd pl ot wa nu : Int32) (co th rw_ : Nat → Int32) (hid : Int32), i + k = m → x < 65537 → TT o pc rd ey co th rw_ hid → ∀ f, k < f →
    ∃ (W' o' pc' rd' : Int32) (co' th' : Nat → Int32) (hid' : Int32) (rw' : Nat → Int32) (g1 g2 g3 g4 g5 : Int32), it12 (bd_L_followDraws_11 (nI m) t1 t2 t3 t4 t5 t6 ey q0 q1 q2 q3 q4 q5) f (nI x) (nI i) o pc rd co th kd pl ot wa nu = some (t1, t2, t3, t4, t5, t6, o', pc', rd', ey, co', th', g1, g2, g3, g4, g5) ∧
      it8 (bd_M_year_49 (nI m) p3 ey H) f (nI x) (nI i) hid rd W rw_ co th = (if p3 = 0 then (f_M_peaPlace hid' rw').bind (fun u => jn_M_year_126 u hid' rd' W' rw' ey co' th' H) else (if p3 = 1 then (f_M_wrongOnes hid' rw' th').bind (fun u => (f_M_ones u).bind (fun u2 => jn_M_year_126 u2 hid' rd' W' rw' ey co' th' H)) else kx 4 0 (jn_M_year_126 (co' (0 : Int32).toNatClampNeg) hid' rd' W' rw' ey co' th' H))) ∧ TT o' pc' rd' ey co' th' rw' hid' := by
  intro k
  induction k with
  | zero =>
    intro i x o pc rd W kd pl ot wa nu co th rw_ hid hk hx hT f hf
    obtain ⟨f, rfl⟩ : ∃ j, f = j + 1 := ⟨f - 1, by omega⟩
    have him : i = m := by omega
    subst him
    refine ⟨W, o, pc, rd, co, th, hid, rw_, kd, pl, ot, wa, nu, ?_, ?_, hT⟩
    · show bd_L_followDraws_11 (nI i) t1 t2 t3 t4 t5 t6 ey q0 q1 q2 q3 q4 q5 (it12 (bd_L_followDraws_11 (nI i) t1 t2 t3 t4 t5 t6 ey q0 q1 q2 q3 q4 q5) f) (nI x) (nI i) o pc rd co th kd pl ot wa nu = _
      unfold bd_L_followDraws_11
      rw [if_pos (nI_le (Nat.le_refl i) (by omega))]
    · show bd_M_year_49 (nI i) p3 ey H (it8 (bd_M_year_49 (nI i) p3 ey H) f) (nI x) (nI i) hid rd W rw_ co th = _
      unfold bd_M_year_49
      rw [if_pos (nI_le (Nat.le_refl i) (by omega))]
  | succ k ih =>
    intro i x o pc rd W kd pl ot wa nu co th rw_ hid hk hx hT f hf
    obtain ⟨f, rfl⟩ : ∃ j, f = j + 1 := ⟨f - 1, by omega⟩
    have hx' : (75 * x + 74) % 65537 < 65537 := Nat.mod_lt _ (by decide)
    obtain ⟨kd', pl', ot', wa', nu', w, a, b, v, hd, hA, hMd⟩ := drawn_AR hx' kd pl ot wa nu hid rd W rw_ ey co th
    obtain ⟨y, W', o', pc', rd', co', th', hid', rw', hy, hp, hs, hh, hT'⟩ := act_M (W := W) hT hA
    obtain ⟨W2, o2, pc2, rd2, co2, th2, hid2, rw2, g1, g2, g3, g4, g5, r1, r2, r3⟩ := ih (i + 1) ((75 * x + 74) % 65537) o' pc' rd' W' kd' pl' ot' wa' nu' co' th' rw' hid' (by omega) hx' hT' f (by omega)
    refine ⟨W2, o2, pc2, rd2, co2, th2, hid2, rw2, g1, g2, g3, g4, g5, ?_, ?_, r3⟩
    · rw [← r1]
      show bd_L_followDraws_11 (nI m) t1 t2 t3 t4 t5 t6 ey q0 q1 q2 q3 q4 q5 (it12 (bd_L_followDraws_11 (nI m) t1 t2 t3 t4 t5 t6 ey q0 q1 q2 q3 q4 q5) f) (nI x) (nI i) o pc rd co th kd pl ot wa nu = _
      unfold bd_L_followDraws_11
      rw [if_neg (nI_ge (show i < m by omega) (by omega)), draw_C hx, bind_some' hd, bind_some' hy]
      by_cases z : y = 0
      · rw [if_pos z, bind_some' (hp z), nI_1]
      · obtain ⟨e1, e2, e3, e4, e5⟩ := hs z
        rw [if_neg z, nI_1, e1, e2, e3, e4, e5]
    · rw [← r2]
      show bd_M_year_49 (nI m) p3 ey H (it8 (bd_M_year_49 (nI m) p3 ey H) f) (nI x) (nI i) hid rd W rw_ co th = _
      unfold bd_M_year_49
      rw [if_neg (nI_ge (show i < m by omega) (by omega)), draw_M hx, hMd, bind_some' hh, nI_1]
theorem ones_chk : ((List.range 16).all fun b => decide (f_J_bitCount (nI b) = f_M_ones (nI b)) && (f_M_ones (nI b)).isSome) = true := by decide +kernel
theorem ones_16 {b : Nat} (hb : b < 16) : ∃ r, f_J_bitCount (nI b) = some r ∧ f_M_ones (nI b) = some r := by
  have h := (Bool.and_eq_true _ _).mp (all_lt ones_chk hb)
  obtain ⟨r, hr⟩ := Option.isSome_iff_exists.mp h.2
  exact ⟨r, by rw [of_decide_eq_true h.1]; exact hr, hr⟩
theorem inL_eq (x : Int32) {lo hi : Nat} (hl : lo < 2 ^ 31) (hh : hi < 2 ^ 31) : f_M_in (Int32.toInt64 x) (lN lo) (lN hi) = f_C_isWithin x (nI lo) (nI hi) := by
  rw [← nI_l hl, ← nI_l hh, in_eq]
set_option maxHeartbeats 1000000 in
theorem op_year {o pc rd hid : Int32} {ey co th rw_ : Nat → Int32} (p1 p2 p3 : Int32) (hT : TT o pc rd ey co th rw_ hid) (t1 t2 t3 t4 t5 t6 t7 t8 t9 : Int32) (te tc tt : Nat → Int32) (k1 k2 k3 k4 k5 : Int32) (ze : Zn 4 te) (zc : Zn 4 tc) (zt : Zn 4 tt) (m2 : Int32) (a5 : Nat → Int32) :
    ∃ (r s1 s2 s3 s4 s5 s6 s7 s8 s9 : Int32) (se sc st : Nat → Int32) (l1 l2 l3 l4 l5 W : Int32) (H : Nat → Int32), f_C_year p1 p2 p3 o pc rd ey co th t1 t2 t3 t4 t5 t6 t7 t8 t9 te tc tt k1 k2 k3 k4 k5 = some (r, s1, s2, s3, s4, s5, s6, s7, s8, s9, se, sc, st, l1, l2, l3, l4, l5) ∧ f_M_year p1 p2 p3 hid rd m2 rw_ ey co th a5 = some (r, hid, rd, W, rw_, co, th, H) ∧ Zn 4 se ∧ Zn 4 sc ∧ Zn 4 st := by
  obtain ⟨z6, z4e, z4c, z4t⟩ := hT.zs
  have i1 := inL_eq p1 (lo := 0) (hi := 9999) (by decide) (by decide)
  have i2 := inL_eq p2 (lo := 1) (hi := 99) (by decide) (by decide)
  have i3 := inL_eq p3 (lo := 0) (hi := 2) (by decide) (by decide)
  unfold f_C_year f_M_year
  rcases within_cases p1 (lo := 0) (hi := 9999) (by decide) (by decide) with ⟨x, -, hx, rfl, w1⟩ | w1
  · rw [w1] at i1
    rw [bind_some' (show f_C_isWithin (nI x) 0 9999 = some 1 from w1), bind_some' (show f_M_in (Int32.toInt64 (nI x)) 0 9999 = some 1 from i1), if_neg (by decide), if_neg (by decide)]
    rcases within_cases p2 (lo := 1) (hi := 99) (by decide) (by decide) with ⟨m, hm1, hm, rfl, w2⟩ | w2
    · rw [w2] at i2
      rw [bind_some' (show f_C_isWithin (nI m) 1 99 = some 1 from w2), bind_some' (show f_M_in (Int32.toInt64 (nI m)) 1 99 = some 1 from i2), if_neg (by decide), if_neg (by decide)]
      rcases within_cases p3 (lo := 0) (hi := 2) (by decide) (by decide) with ⟨j, -, hj, rfl, w3⟩ | w3
      · rw [w3] at i3
        rw [bind_some' (show f_C_isWithin (nI j) 0 2 = some 1 from w3), bind_some' (show f_M_in (Int32.toInt64 (nI j)) 0 2 = some 1 from i3), if_neg (by decide), if_neg (by decide)]
        obtain ⟨H, hH, hK⟩ := keepNow_K hid rd rw_ co th a5
        obtain ⟨W', o', pc', rd', co', th', hid', rw', g1, g2, g3, g4, g5, r1, r2, r3⟩ := year_loop (m := m) (ey := ey) (H := H) (p3 := nI j) (t1 := 0) (t2 := -6) (t3 := -6) (t4 := 0) (t5 := -6) (t6 := -6) (q0 := o) (q1 := pc) (q2 := rd) (q3 := ey) (q4 := co) (q5 := th) hm m 0 x o pc rd m2 k1 k2 k3 k4 k5 co th rw_ hid (by omega) (by omega) hT 1100 (by omega)
        obtain ⟨y6, -, y4c, y4t⟩ := r3.zs
        have hb : ∀ v, f_M_back v hid' rd' rw' co' th' H = some (v, hid, rd, rw_, co, th) := fun v => back_K hK z6 y6 z4c y4c z4t y4t
        have hbeg : f_L_begin t1 t2 t3 t4 t5 t6 t7 t8 t9 te tc tt o pc rd ey co th = some (0, (-6), (-6), 0, (-6), (-6), o, pc, rd, ey, co, th) := by
          unfold f_L_begin
          rw [bind_some' (copyFrom_eq ze zc zt z4e z4c z4t)]
        have hfol : f_L_followDraws (nI x) (nI m) t1 t2 t3 t4 t5 t6 t7 t8 t9 te tc tt k1 k2 k3 k4 k5 o pc rd ey co th = some (0, (-6), (-6), 0, (-6), (-6), o', pc', rd', ey, co', th', g1, g2, g3, g4, g5) := by
          unfold f_L_followDraws
          rw [bind_some' hbeg]
          dsimp only
          exact r1
        obtain ⟨pp, hpC, hpM, hpp⟩ := peaPlace_TT r3
        have hq : pp = -6 ∨ ∃ q, q < 6 ∧ pp = nI q := hpp.elim (fun z => Or.inl z.2) Or.inr
        have r2' : it8 (bd_M_year_49 (nI m) (nI j) ey H) 1100 (nI x) 0 hid rd m2 rw_ co th = _ := r2
        rw [bind_some' hfol, bind_some' hH, r2']
        dsimp only
        unfold f_L_ofYear jn_M_year_126
        have hj3 : j = 0 ∨ j = 1 ∨ j = 2 := by omega
        rcases hj3 with rfl | rfl | rfl
        · rw [if_pos nI_0, if_pos nI_0, bind_some' hpC, bind_some' rfl, bind_some' hpM, bind_some' (hb _)]
          exact ⟨_, _, _, _, _, _, _, _, _, _, _, _, _, _, _, _, _, _, _, _, rfl, rfl, z4e, y4c, y4t⟩
        · obtain ⟨b, hb16, eb⟩ := wq_lt pp th'
          obtain ⟨r, ob, om⟩ := ones_16 hb16
          rw [if_neg (show ¬ nI 1 = 0 by decide), if_neg (show ¬ nI 1 = 0 by decide), if_pos (show nI 1 = 1 by decide), if_pos (show nI 1 = 1 by decide), bind_some' (wrongC hpC), eb, bind_some' ob, bind_some' rfl, bind_some' (wrongM hpM hq).1, eb, bind_some' om, bind_some' (hb _)]
          exact ⟨_, _, _, _, _, _, _, _, _, _, _, _, _, _, _, _, _, _, _, _, rfl, rfl, z4e, y4c, y4t⟩
        · rw [if_neg (show ¬ nI 2 = 0 by decide), if_neg (show ¬ nI 2 = 0 by decide), if_neg (show ¬ nI 2 = 1 by decide), if_neg (show ¬ nI 2 = 1 by decide), bind_some' (show f_T_coinOf 0 co' = some (co' 0) from coinOf_nI (w := 0) (by decide)), bind_some' rfl, show kx 4 (0 : Int32) _ = _ from kx_nI (n := 4) (i := 0) (by decide) (by decide), bind_some' (hb _)]
          exact ⟨_, _, _, _, _, _, _, _, _, _, _, _, _, _, _, _, _, _, _, _, rfl, rfl, z4e, y4c, y4t⟩
      · rw [w3] at i3
        rw [bind_some' (show f_C_isWithin p3 0 2 = some 0 from w3), bind_some' (show f_M_in (Int32.toInt64 p3) 0 2 = some 0 from i3), if_pos rfl, if_pos rfl]
        exact ⟨_, _, _, _, _, _, _, _, _, _, _, _, _, _, _, _, _, _, _, _, rfl, rfl, ze, zc, zt⟩
    · rw [w2] at i2
      rw [bind_some' (show f_C_isWithin p2 1 99 = some 0 from w2), bind_some' (show f_M_in (Int32.toInt64 p2) 1 99 = some 0 from i2), if_pos rfl, if_pos rfl]
      exact ⟨_, _, _, _, _, _, _, _, _, _, _, _, _, _, _, _, _, _, _, _, rfl, rfl, ze, zc, zt⟩
  · rw [w1] at i1
    rw [bind_some' (show f_C_isWithin p1 0 9999 = some 0 from w1), bind_some' (show f_M_in (Int32.toInt64 p1) 0 9999 = some 0 from i1), if_pos rfl, if_pos rfl]
    exact ⟨_, _, _, _, _, _, _, _, _, _, _, _, _, _, _, _, _, _, _, _, rfl, rfl, ze, zc, zt⟩
