/-! what is asked of rounds: judge, behind, table, pea, first, done: class and reference -/
theorem in_eq (x lo hi : Int32) : f_M_in (Int32.toInt64 x) (Int32.toInt64 lo) (Int32.toInt64 hi) = f_C_isWithin x lo hi := by
  unfold f_M_in f_C_isWithin
  simp only [lg_cmp_lt, lg_cmp_gt, fa_wide_lt]
theorem within_cases (x : Int32) {lo hi : Nat} (hl : lo < 2 ^ 31) (hh : hi < 2 ^ 31) : (∃ j, lo ≤ j ∧ j ≤ hi ∧ x = nI j ∧ f_C_isWithin x (nI lo) (nI hi) = some 1) ∨ f_C_isWithin x (nI lo) (nI hi) = some 0 := by
  by_cases h0 : x < 0
  · right
    unfold f_C_isWithin
    have h1 : x < nI lo := by
      rw [fa_lt] at h0 ⊢
      rw [nI_toInt hl]
      have : (0 : Int32).toInt = 0 := by decide
      omega
    rw [if_pos h1]
  · obtain ⟨j, hj, rfl⟩ := nI_of h0
    by_cases h : lo ≤ j ∧ j ≤ hi
    · left
      exact ⟨j, h.1, h.2, rfl, by rw [within_nI hj hl hh, if_pos h]⟩
    · right
      rw [within_nI hj hl hh, if_neg h]
theorem place_cases (x : Int32) : (∃ i, i < 6 ∧ x = nI i ∧ f_C_isPlace x = some 1 ∧ f_M_isPlace x = some 1) ∨ (f_C_isPlace x = some 0 ∧ f_M_isPlace x = some 0) := by
  have hM : f_M_isPlace x = (f_C_isWithin x (nI 0) (nI 5)).bind (fun u => kb u (some u)) := by
    unfold f_M_isPlace
    rw [show (0 : Int64) = Int32.toInt64 0 from by decide, show (5 : Int64) = Int32.toInt64 5 from by decide, in_eq]
    rfl
  rw [hM]
  unfold f_C_isPlace
  rcases pk_ix x (n := 6) (by decide) with h | h | ⟨j, hj, rfl⟩
  · right
    unfold f_C_isWithin
    rw [if_pos h, if_pos (show x < nI 0 from h)]
    exact ⟨rfl, rfl⟩
  · right
    have h0 : ¬ x < 0 := fun z => by
      rw [fa_lt] at z; rw [fa_le, nI_toInt (by decide)] at h
      have : (0 : Int32).toInt = 0 := by decide
      omega
    have h5 : nI 5 < x := by
      rw [fa_le, nI_toInt (by decide)] at h
      rw [fa_lt, nI_toInt (by decide)]
      omega
    unfold f_C_isWithin
    rw [if_neg h0, if_pos (show (6 : Int32) ≤ x from h), if_neg (show ¬ x < nI 0 from h0), if_pos h5]
    exact ⟨rfl, rfl⟩
  · left
    refine ⟨j, hj, rfl, ?_, ?_⟩
    · rw [if_neg (nI_pos (by omega)), if_neg (show ¬ (6 : Int32) ≤ nI j from nI_ge (b := 6) hj (by decide))]
    · rw [within_nI (by omega) (by decide) (by decide), if_pos (by omega)]
      rfl
theorem watcher_cases (x : Int32) : (∃ i, i < 4 ∧ x = nI i ∧ f_C_isWatcher x = some 1 ∧ f_M_isWatcher x = some 1) ∨ (f_C_isWatcher x = some 0 ∧ f_M_isWatcher x = some 0) := by
  have hM : f_M_isWatcher x = (f_C_isWithin x (nI 0) (nI 3)).bind (fun u => kb u (some u)) := by
    unfold f_M_isWatcher
    rw [show (0 : Int64) = Int32.toInt64 0 from by decide, show (3 : Int64) = Int32.toInt64 3 from by decide, in_eq]
    rfl
  rw [hM]
  rcases pk_ix x (n := 4) (by decide) with h | h | ⟨j, hj, rfl⟩
  · right
    unfold f_C_isWithin f_C_isWatcher
    rw [if_pos h, if_pos (show x < nI 0 from h)]
    exact ⟨rfl, rfl⟩
  · right
    have h0 : ¬ x < 0 := fun z => by
      rw [fa_lt] at z; rw [fa_le, nI_toInt (by decide)] at h
      have : (0 : Int32).toInt = 0 := by decide
      omega
    have h5 : nI 3 < x := by
      rw [fa_le, nI_toInt (by decide)] at h
      rw [fa_lt, nI_toInt (by decide)]
      omega
    unfold f_C_isWithin f_C_isWatcher
    rw [if_neg h0, if_pos (show (4 : Int32) ≤ x from h), if_neg (show ¬ x < nI 0 from h0), if_pos h5]
    exact ⟨rfl, rfl⟩
  · left
    refine ⟨j, hj, rfl, isWatcher_nI hj, ?_⟩
    rw [within_nI (by omega) (by decide) (by decide), if_pos (by omega)]
    rfl
/-- both answer r, the class's telling holds rows that end, the reference is as it was -/
def SM (X : Option (Int32 × Int32 × Int32 × Int32 × Int32 × Int32 × Int32 × Int32 × Int32 × Int32 × (Nat → Int32) × (Nat → Int32) × (Nat → Int32) × Int32 × Int32 × Int32 × Int32 × Int32)) (Y : Option (Int32 × Int32 × Int32 × Int32 × Int32 × Int32 × Int32 × Int32 × Int32 × (Nat → Int32) × (Nat → Int32) × (Nat → Int32) × (Nat → Int32) × (Nat → Int32) × (Nat → Int32) × (Nat → Int32) × (Nat → Int32))) (hid rd : Int32) (rw_ co th : Nat → Int32) : Prop :=
  ∃ (r s1 s2 s3 s4 s5 s6 s7 s8 s9 : Int32) (se sc st : Nat → Int32) (l1 l2 l3 l4 l5 n1 n2 n3 n4 n5 n6 : Int32) (b1 b2 b3 b4 b5 : Nat → Int32), X = some (r, s1, s2, s3, s4, s5, s6, s7, s8, s9, se, sc, st, l1, l2, l3, l4, l5) ∧ Y = some (r, hid, rd, n1, n2, n3, n4, n5, n6, rw_, co, th, b1, b2, b3, b4, b5) ∧ Zn 4 se ∧ Zn 4 sc ∧ Zn 4 st
section RO
variable {o pc rd hid : Int32} {ey co th rw_ : Nat → Int32} {cnt : Nat} {sg : Nat → Int32}
set_option maxHeartbeats 1000000 in
theorem op_table (p1 : Int32) (hT : TT o pc rd ey co th rw_ hid) (hc : cnt ≤ 60) (hs : ∀ k, k < cnt → ∃ s, s < 127 ∧ sg k = nI s) (t1 t2 t3 t4 t5 t6 t7 t8 t9 : Int32) (te tc tt : Nat → Int32) (k1 k2 k3 k4 k5 : Int32) (ze : Zn 4 te) (zc : Zn 4 tc) (zt : Zn 4 tt) (m1 m2 m3 m4 m5 m6 : Int32) (a1 a2 a3 a4 a5 : Nat → Int32) : SM (f_C_table p1 (nI cnt) sg o pc rd ey co th t1 t2 t3 t4 t5 t6 t7 t8 t9 te tc tt k1 k2 k3 k4 k5) (f_M_table p1 hid rd (nI cnt) m1 m2 m3 m4 m5 m6 rw_ ey co th sg a1 a2 a3 a4 a5) hid rd rw_ co th := by
  obtain ⟨fc, A, B1, Y1, W1, x1, x2, o1, pc1, rd1, ey1, co1, th1, g1, g2, g3, g4, g5, no, hid2, rd2, n2, W2, B2, Y2, y1, y2, rw2, co2, th2, ac, one, oth, mu, H, hC, hM, ⟨ze1, zc1, zt1⟩, hK, ⟨z6', zc', zt'⟩, hcase⟩ := follow_CM hT hc hs t1 t2 t3 t4 t5 t6 t7 t8 t9 te tc tt k1 k2 k3 k4 k5 ze zc zt m1 m2 m3 m4 m5 m6 a1 a2 a3 a4 a5
  obtain ⟨z6, z4e, z4c, z4t⟩ := hT.zs
  have hb : ∀ v, f_M_back v hid2 rd2 rw2 co2 th2 H = some (v, hid, rd, rw_, co, th) := fun v => back_K hK z6 z6' z4c zc' z4t zt'
  rcases place_cases p1 with ⟨i, hi, rfl, h1, h2⟩ | ⟨h1, h2⟩
  · unfold f_C_table f_M_table jn_M_table_31
    rw [bind_some' h1, bind_some' h2, if_neg (by decide), if_neg (by decide), bind_some' hC, bind_some' hM]
    dsimp only
    rcases hcase with ⟨rfl, rfl⟩ | ⟨(⟨rfl, rfl, rfl⟩ | ⟨rfl, rfl⟩), rfl, rfl, rfl, rfl, rfl, rfl, rfl, rfl, rfl, hT1⟩
    · rw [if_neg (by decide), if_neg (by decide), bind_some' (hb _)]
      exact ⟨_, _, _, _, _, _, _, _, _, _, _, _, _, _, _, _, _, _, _, _, _, _, _, _, _, _, _, _, _, rfl, rfl, ze1, zc1, zt1⟩
    · obtain ⟨⟨a', b', c', d', e', f', hp, rfl, rfl⟩, -⟩ := hT1
      rw [if_pos rfl, if_pos rfl, bind_some' (cup6 hp i hi), kx_nI hi (by decide), bind_some' (hb _), nI_clamp (by omega), on6_l6 i hi]
      exact ⟨_, _, _, _, _, _, _, _, _, _, _, _, _, _, _, _, _, _, _, _, _, _, _, _, _, _, _, _, _, rfl, rfl, ze1, zc1, zt1⟩
    · rw [if_neg (by decide), if_neg (by decide), bind_some' (hb _)]
      exact ⟨_, _, _, _, _, _, _, _, _, _, _, _, _, _, _, _, _, _, _, _, _, _, _, _, _, _, _, _, _, rfl, rfl, ze1, zc1, zt1⟩
  · unfold f_C_table f_M_table
    rw [bind_some' h1, bind_some' h2, if_pos rfl, if_pos rfl]
    exact ⟨_, _, _, _, _, _, _, _, _, _, _, _, _, _, _, _, _, _, _, _, _, _, _, _, _, _, _, _, _, rfl, rfl, ze, zc, zt⟩
set_option maxHeartbeats 1000000 in
theorem op_pea (p1 : Int32) (hT : TT o pc rd ey co th rw_ hid) (hc : cnt ≤ 60) (hs : ∀ k, k < cnt → ∃ s, s < 127 ∧ sg k = nI s) (t1 t2 t3 t4 t5 t6 t7 t8 t9 : Int32) (te tc tt : Nat → Int32) (k1 k2 k3 k4 k5 : Int32) (ze : Zn 4 te) (zc : Zn 4 tc) (zt : Zn 4 tt) (m1 m2 m3 m4 m5 m6 : Int32) (a1 a2 a3 a4 a5 : Nat → Int32) : SM (f_C_pea p1 (nI cnt) sg o pc rd ey co th t1 t2 t3 t4 t5 t6 t7 t8 t9 te tc tt k1 k2 k3 k4 k5) (f_M_pea p1 hid rd (nI cnt) m1 m2 m3 m4 m5 m6 rw_ ey co th sg a1 a2 a3 a4 a5) hid rd rw_ co th := by
  obtain ⟨fc, A, B1, Y1, W1, x1, x2, o1, pc1, rd1, ey1, co1, th1, g1, g2, g3, g4, g5, no, hid2, rd2, n2, W2, B2, Y2, y1, y2, rw2, co2, th2, ac, one, oth, mu, H, hC, hM, ⟨ze1, zc1, zt1⟩, hK, ⟨z6', zc', zt'⟩, hcase⟩ := follow_CM hT hc hs t1 t2 t3 t4 t5 t6 t7 t8 t9 te tc tt k1 k2 k3 k4 k5 ze zc zt m1 m2 m3 m4 m5 m6 a1 a2 a3 a4 a5
  obtain ⟨z6, z4e, z4c, z4t⟩ := hT.zs
  have hb : ∀ v, f_M_back v hid2 rd2 rw2 co2 th2 H = some (v, hid, rd, rw_, co, th) := fun v => back_K hK z6 z6' z4c zc' z4t zt'
  have hin : f_M_in (Int32.toInt64 p1) 0 1 = f_C_isWithin p1 (nI 0) (nI 1) := by
    rw [show (0 : Int64) = Int32.toInt64 0 from by decide, show (1 : Int64) = Int32.toInt64 1 from by decide, in_eq]
    rfl
  rcases within_cases p1 (lo := 0) (hi := 1) (by decide) (by decide) with ⟨j, -, hj, rfl, hw⟩ | hw
  · have hw' : f_C_isWithin (nI j) 0 1 = some 1 := hw
    rw [hw] at hin
    unfold f_C_pea f_M_pea jn_M_pea_44
    rw [bind_some' hw', bind_some' hin, if_neg (by decide), if_neg (by decide), bind_some' hC, bind_some' hM]
    dsimp only
    rcases hcase with ⟨rfl, rfl⟩ | ⟨(⟨rfl, rfl, rfl⟩ | ⟨rfl, rfl⟩), rfl, rfl, rfl, rfl, rfl, rfl, rfl, rfl, rfl, hT1⟩
    · rw [if_neg (by decide), if_neg (by decide), bind_some' (hb _)]
      exact ⟨_, _, _, _, _, _, _, _, _, _, _, _, _, _, _, _, _, _, _, _, _, _, _, _, _, _, _, _, _, rfl, rfl, ze1, zc1, zt1⟩
    · obtain ⟨pp, hpC, hpM, -⟩ := peaPlace_TT hT1
      unfold f_L_ofPea
      rw [if_pos rfl, if_pos rfl]
      by_cases z : j = 0
      · subst z
        rw [if_pos nI_0, if_pos nI_0, bind_some' hpC, bind_some' rfl, bind_some' hpM, bind_some' (hb _)]
        exact ⟨_, _, _, _, _, _, _, _, _, _, _, _, _, _, _, _, _, _, _, _, _, _, _, _, _, _, _, _, _, rfl, rfl, ze1, zc1, zt1⟩
      · rw [if_neg (show ¬ nI j = 0 from nI_ne0 (by omega) (by omega)), if_neg (show ¬ nI j = 0 from nI_ne0 (by omega) (by omega))]
        have hpn : f_T_peaCupOrNone pc1 = some hid2 := by
          unfold f_T_peaCupOrNone
          rcases hT1.2.1 with ⟨rfl, rfl⟩ | ⟨k, hk, rfl, rfl⟩
          · rfl
          · rw [if_neg (nI_ne_m1 (by omega))]
        rw [bind_some' hpn, bind_some' rfl, bind_some' (hb _)]
        exact ⟨_, _, _, _, _, _, _, _, _, _, _, _, _, _, _, _, _, _, _, _, _, _, _, _, _, _, _, _, _, rfl, rfl, ze1, zc1, zt1⟩
    · rw [if_neg (by decide), if_neg (by decide), bind_some' (hb _)]
      exact ⟨_, _, _, _, _, _, _, _, _, _, _, _, _, _, _, _, _, _, _, _, _, _, _, _, _, _, _, _, _, rfl, rfl, ze1, zc1, zt1⟩
  · have hw' : f_C_isWithin p1 0 1 = some 0 := hw
    rw [hw] at hin
    unfold f_C_pea f_M_pea
    rw [bind_some' hw', bind_some' hin, if_pos rfl, if_pos rfl]
    exact ⟨_, _, _, _, _, _, _, _, _, _, _, _, _, _, _, _, _, _, _, _, _, _, _, _, _, _, _, _, _, rfl, rfl, ze, zc, zt⟩
set_option maxHeartbeats 1000000 in
theorem op_first (p1 : Int32) (hT : TT o pc rd ey co th rw_ hid) (hc : cnt ≤ 60) (hs : ∀ k, k < cnt → ∃ s, s < 127 ∧ sg k = nI s) (t1 t2 t3 t4 t5 t6 t7 t8 t9 : Int32) (te tc tt : Nat → Int32) (k1 k2 k3 k4 k5 : Int32) (ze : Zn 4 te) (zc : Zn 4 tc) (zt : Zn 4 tt) (m1 m2 m3 m4 m5 m6 : Int32) (a1 a2 a3 a4 a5 : Nat → Int32) : SM (f_C_first p1 (nI cnt) sg o pc rd ey co th t1 t2 t3 t4 t5 t6 t7 t8 t9 te tc tt k1 k2 k3 k4 k5) (f_M_first p1 hid rd (nI cnt) m1 m2 m3 m4 m5 m6 rw_ ey co th sg a1 a2 a3 a4 a5) hid rd rw_ co th := by
  obtain ⟨fc, A, B1, Y1, W1, x1, x2, o1, pc1, rd1, ey1, co1, th1, g1, g2, g3, g4, g5, no, hid2, rd2, n2, W2, B2, Y2, y1, y2, rw2, co2, th2, ac, one, oth, mu, H, hC, hM, ⟨ze1, zc1, zt1⟩, hK, ⟨z6', zc', zt'⟩, hcase⟩ := follow_CM hT hc hs t1 t2 t3 t4 t5 t6 t7 t8 t9 te tc tt k1 k2 k3 k4 k5 ze zc zt m1 m2 m3 m4 m5 m6 a1 a2 a3 a4 a5
  obtain ⟨z6, z4e, z4c, z4t⟩ := hT.zs
  have hb : ∀ v, f_M_back v hid2 rd2 rw2 co2 th2 H = some (v, hid, rd, rw_, co, th) := fun v => back_K hK z6 z6' z4c zc' z4t zt'
  have hin : f_M_in (Int32.toInt64 p1) 0 2 = f_C_isWithin p1 (nI 0) (nI 2) := by
    rw [show (0 : Int64) = Int32.toInt64 0 from by decide, show (2 : Int64) = Int32.toInt64 2 from by decide, in_eq]
    rfl
  rcases within_cases p1 (lo := 0) (hi := 2) (by decide) (by decide) with ⟨j, -, hj, rfl, hw⟩ | hw
  · have hw' : f_C_isWithin (nI j) 0 2 = some 1 := hw
    rw [hw] at hin
    unfold f_C_first f_M_first jn_M_first_58
    rw [bind_some' hw', bind_some' hin, if_neg (by decide), if_neg (by decide), bind_some' hC, bind_some' hM]
    dsimp only
    rcases hcase with ⟨rfl, rfl⟩ | ⟨(⟨rfl, rfl, rfl⟩ | ⟨rfl, rfl⟩), rfl, rfl, rfl, rfl, rfl, rfl, rfl, rfl, rfl, hT1⟩
    · rw [if_neg (by decide), if_neg (by decide), bind_some' (hb _)]
      exact ⟨_, _, _, _, _, _, _, _, _, _, _, _, _, _, _, _, _, _, _, _, _, _, _, _, _, _, _, _, _, rfl, rfl, ze1, zc1, zt1⟩
    · unfold f_L_ofFirstWrong
      rw [if_pos rfl, if_pos rfl]
      by_cases z : nI j = 0
      · rw [if_pos z, if_pos z, bind_some' rfl, bind_some' (hb _)]
        exact ⟨_, _, _, _, _, _, _, _, _, _, _, _, _, _, _, _, _, _, _, _, _, _, _, _, _, _, _, _, _, rfl, rfl, ze1, zc1, zt1⟩
      · rw [if_neg z, if_neg z]
        by_cases z2 : nI j = 1
        · rw [if_pos z2, if_pos z2, bind_some' rfl, bind_some' (hb _)]
          exact ⟨_, _, _, _, _, _, _, _, _, _, _, _, _, _, _, _, _, _, _, _, _, _, _, _, _, _, _, _, _, rfl, rfl, ze1, zc1, zt1⟩
        · rw [if_neg z2, if_neg z2, bind_some' rfl, bind_some' (hb _)]
          exact ⟨_, _, _, _, _, _, _, _, _, _, _, _, _, _, _, _, _, _, _, _, _, _, _, _, _, _, _, _, _, rfl, rfl, ze1, zc1, zt1⟩
    · rw [if_neg (by decide), if_neg (by decide), bind_some' (hb _)]
      exact ⟨_, _, _, _, _, _, _, _, _, _, _, _, _, _, _, _, _, _, _, _, _, _, _, _, _, _, _, _, _, rfl, rfl, ze1, zc1, zt1⟩
  · have hw' : f_C_isWithin p1 0 2 = some 0 := hw
    rw [hw] at hin
    unfold f_C_first f_M_first
    rw [bind_some' hw', bind_some' hin, if_pos rfl, if_pos rfl]
    exact ⟨_, _, _, _, _, _, _, _, _, _, _, _, _, _, _, _, _, _, _, _, _, _, _, _, _, _, _, _, _, rfl, rfl, ze, zc, zt⟩
set_option maxHeartbeats 1000000 in
theorem op_judge (p1 : Int32) (hT : TT o pc rd ey co th rw_ hid) (hc : cnt ≤ 60) (hs : ∀ k, k < cnt → ∃ s, s < 127 ∧ sg k = nI s) (t1 t2 t3 t4 t5 t6 t7 t8 t9 : Int32) (te tc tt : Nat → Int32) (k1 k2 k3 k4 k5 : Int32) (ze : Zn 4 te) (zc : Zn 4 tc) (zt : Zn 4 tt) (m1 m2 m3 m4 m5 m6 : Int32) (a1 a2 a3 a4 a5 : Nat → Int32) : SM (f_C_judge p1 (nI cnt) sg o pc rd ey co th t1 t2 t3 t4 t5 t6 t7 t8 t9 te tc tt k1 k2 k3 k4 k5) (f_M_judge p1 hid rd (nI cnt) m1 m2 m3 m4 m5 m6 rw_ ey co th sg a1 a2 a3 a4 a5) hid rd rw_ co th := by
  obtain ⟨fc, A, B1, Y1, W1, x1, x2, o1, pc1, rd1, ey1, co1, th1, g1, g2, g3, g4, g5, no, hid2, rd2, n2, W2, B2, Y2, y1, y2, rw2, co2, th2, ac, one, oth, mu, H, hC, hM, ⟨ze1, zc1, zt1⟩, hK, ⟨z6', zc', zt'⟩, hcase⟩ := follow_CM hT hc hs t1 t2 t3 t4 t5 t6 t7 t8 t9 te tc tt k1 k2 k3 k4 k5 ze zc zt m1 m2 m3 m4 m5 m6 a1 a2 a3 a4 a5
  obtain ⟨z6, z4e, z4c, z4t⟩ := hT.zs
  have hb : ∀ v, f_M_back v hid2 rd2 rw2 co2 th2 H = some (v, hid, rd, rw_, co, th) := fun v => back_K hK z6 z6' z4c zc' z4t zt'
  have hin : f_M_in (Int32.toInt64 p1) 0 2 = f_C_isWithin p1 (nI 0) (nI 2) := by
    rw [show (0 : Int64) = Int32.toInt64 0 from by decide, show (2 : Int64) = Int32.toInt64 2 from by decide, in_eq]
    rfl
  rcases within_cases p1 (lo := 0) (hi := 2) (by decide) (by decide) with ⟨j, -, hj, rfl, hw⟩ | hw
  · have hw' : f_C_isWithin (nI j) 0 2 = some 1 := hw
    rw [hw] at hin
    unfold f_C_judge f_M_judge
    rw [bind_some' hw', bind_some' hin, if_neg (by decide), if_neg (by decide), bind_some' hC, bind_some' hM]
    dsimp only
    rw [bind_some' (hb _)]
    dsimp only
    rcases hcase with ⟨rfl, rfl⟩ | ⟨hcase, rfl, rfl, rfl, rfl, rfl, rfl, rfl, rfl, rfl, hT1⟩
    · rw [if_pos rfl, if_pos rfl]
      exact ⟨_, _, _, _, _, _, _, _, _, _, _, _, _, _, _, _, _, _, _, _, _, _, _, _, _, _, _, _, _, rfl, rfl, ze1, zc1, zt1⟩
    · have hj3 : j = 0 ∨ j = 1 ∨ j = 2 := by omega
      rcases hcase with ⟨rfl, rfl, rfl⟩ | ⟨rfl, rfl⟩ <;> rcases hj3 with rfl | rfl | rfl <;> exact ⟨_, _, _, _, _, _, _, _, _, _, _, _, _, _, _, _, _, _, _, _, _, _, _, _, _, _, _, _, _, rfl, rfl, ze1, zc1, zt1⟩
  · have hw' : f_C_isWithin p1 0 2 = some 0 := hw
    rw [hw] at hin
    unfold f_C_judge f_M_judge
    rw [bind_some' hw', bind_some' hin, if_pos rfl, if_pos rfl]
    exact ⟨_, _, _, _, _, _, _, _, _, _, _, _, _, _, _, _, _, _, _, _, _, _, _, _, _, _, _, _, _, rfl, rfl, ze, zc, zt⟩
set_option maxHeartbeats 1000000 in
theorem op_behind (p1 : Int32) (p2 : Int32) (hT : TT o pc rd ey co th rw_ hid) (hc : cnt ≤ 60) (hs : ∀ k, k < cnt → ∃ s, s < 127 ∧ sg k = nI s) (t1 t2 t3 t4 t5 t6 t7 t8 t9 : Int32) (te tc tt : Nat → Int32) (k1 k2 k3 k4 k5 : Int32) (ze : Zn 4 te) (zc : Zn 4 tc) (zt : Zn 4 tt) (m1 m2 m3 m4 m5 m6 : Int32) (a1 a2 a3 a4 a5 : Nat → Int32) : SM (f_C_behind p1 p2 (nI cnt) sg o pc rd ey co th t1 t2 t3 t4 t5 t6 t7 t8 t9 te tc tt k1 k2 k3 k4 k5) (f_M_behind p1 p2 hid rd (nI cnt) m1 m2 m3 m4 m5 m6 rw_ ey co th sg a1 a2 a3 a4 a5) hid rd rw_ co th := by
  obtain ⟨fc, A, B1, Y1, W1, x1, x2, o1, pc1, rd1, ey1, co1, th1, g1, g2, g3, g4, g5, no, hid2, rd2, n2, W2, B2, Y2, y1, y2, rw2, co2, th2, ac, one, oth, mu, H, hC, hM, ⟨ze1, zc1, zt1⟩, hK, ⟨z6', zc', zt'⟩, hcase⟩ := follow_CM hT hc hs t1 t2 t3 t4 t5 t6 t7 t8 t9 te tc tt k1 k2 k3 k4 k5 ze zc zt m1 m2 m3 m4 m5 m6 a1 a2 a3 a4 a5
  obtain ⟨z6, z4e, z4c, z4t⟩ := hT.zs
  have hb : ∀ v, f_M_back v hid2 rd2 rw2 co2 th2 H = some (v, hid, rd, rw_, co, th) := fun v => back_K hK z6 z6' z4c zc' z4t zt'
  have hin : f_M_in (Int32.toInt64 p2) 0 2 = f_C_isWithin p2 (nI 0) (nI 2) := by
    rw [show (0 : Int64) = Int32.toInt64 0 from by decide, show (2 : Int64) = Int32.toInt64 2 from by decide, in_eq]
    rfl
  rcases watcher_cases p1 with ⟨i, hi, rfl, h1, h2⟩ | ⟨h1, h2⟩
  · rcases within_cases p2 (lo := 0) (hi := 2) (by decide) (by decide) with ⟨j, -, hj, rfl, hw⟩ | hw
    · have hw' : f_C_isWithin (nI j) 0 2 = some 1 := hw
      rw [hw] at hin
      unfold f_C_behind f_M_behind jn_M_behind_80
      rw [bind_some' h1, bind_some' h2, if_neg (by decide), if_neg (by decide), bind_some' hw', bind_some' hin, if_neg (by decide), if_neg (by decide), bind_some' hC, bind_some' hM]
      dsimp only
      rcases hcase with ⟨rfl, rfl⟩ | ⟨(⟨rfl, rfl, rfl⟩ | ⟨rfl, rfl⟩), rfl, rfl, rfl, rfl, rfl, rfl, rfl, rfl, rfl, hT1⟩
      · rw [if_neg (by decide), if_neg (by decide), bind_some' (hb _)]
        exact ⟨_, _, _, _, _, _, _, _, _, _, _, _, _, _, _, _, _, _, _, _, _, _, _, _, _, _, _, _, _, rfl, rfl, ze1, zc1, zt1⟩
      · obtain ⟨pp, hpC, hpM, hpp⟩ := peaPlace_TT hT1
        have hq : pp = -6 ∨ ∃ q, q < 6 ∧ pp = nI q := hpp.elim (fun z => Or.inl z.2) Or.inr
        unfold f_L_ofWatcher
        rw [if_pos rfl, if_pos rfl]
        have hj3 : j = 0 ∨ j = 1 ∨ j = 2 := by omega
        rcases hj3 with rfl | rfl | rfl
        · rw [if_pos nI_0, if_pos nI_0]
          have e1 : f_T_thinksOf (nI i) th1 = some (th1 i) := by
            unfold f_T_thinksOf
            rw [bind_some' (isWatcher_nI hi), if_neg (by decide), kx_nI hi (by decide), nI_clamp (by omega)]
          rw [bind_some' e1, bind_some' rfl, kx_nI hi (by decide), nI_clamp (by omega), bind_some' (hb _)]
          exact ⟨_, _, _, _, _, _, _, _, _, _, _, _, _, _, _, _, _, _, _, _, _, _, _, _, _, _, _, _, _, rfl, rfl, ze1, zc1, zt1⟩
        · rw [if_neg (show ¬ nI 1 = 0 by decide), if_neg (show ¬ nI 1 = 0 by decide), if_pos (show nI 1 = 1 by decide), if_pos (show nI 1 = 1 by decide), bind_some' (coinOf_nI hi), bind_some' rfl, kx_nI hi (by decide), nI_clamp (by omega), bind_some' (hb _)]
          exact ⟨_, _, _, _, _, _, _, _, _, _, _, _, _, _, _, _, _, _, _, _, _, _, _, _, _, _, _, _, _, rfl, rfl, ze1, zc1, zt1⟩
        · rw [if_neg (show ¬ nI 2 = 0 by decide), if_neg (show ¬ nI 2 = 0 by decide), if_neg (show ¬ nI 2 = 1 by decide), if_neg (show ¬ nI 2 = 1 by decide), bind_some' (wrongC hpC), bind_some' rfl, bind_some' ((wrongM hpM hq).2 i hi), wq_bit pp th1 i hi]
          by_cases z : wb pp (th1 i) = true
          · rw [if_pos z, if_neg (by decide), bind_some' (hb _)]
            exact ⟨_, _, _, _, _, _, _, _, _, _, _, _, _, _, _, _, _, _, _, _, _, _, _, _, _, _, _, _, _, rfl, rfl, ze1, zc1, zt1⟩
          · rw [if_neg z, if_pos rfl, bind_some' (hb _)]
            exact ⟨_, _, _, _, _, _, _, _, _, _, _, _, _, _, _, _, _, _, _, _, _, _, _, _, _, _, _, _, _, rfl, rfl, ze1, zc1, zt1⟩
      · rw [if_neg (by decide), if_neg (by decide), bind_some' (hb _)]
        exact ⟨_, _, _, _, _, _, _, _, _, _, _, _, _, _, _, _, _, _, _, _, _, _, _, _, _, _, _, _, _, rfl, rfl, ze1, zc1, zt1⟩
    · have hw' : f_C_isWithin p2 0 2 = some 0 := hw
      rw [hw] at hin
      unfold f_C_behind f_M_behind
      rw [bind_some' h1, bind_some' h2, if_neg (by decide), if_neg (by decide), bind_some' hw', bind_some' hin, if_pos rfl, if_pos rfl]
      exact ⟨_, _, _, _, _, _, _, _, _, _, _, _, _, _, _, _, _, _, _, _, _, _, _, _, _, _, _, _, _, rfl, rfl, ze, zc, zt⟩
  · unfold f_C_behind f_M_behind
    rw [bind_some' h1, bind_some' h2, if_pos rfl, if_pos rfl]
    exact ⟨_, _, _, _, _, _, _, _, _, _, _, _, _, _, _, _, _, _, _, _, _, _, _, _, _, _, _, _, _, rfl, rfl, ze, zc, zt⟩
set_option maxHeartbeats 1000000 in
theorem op_done (hT : TT o pc rd ey co th rw_ hid) (hc : cnt ≤ 60) (hs : ∀ k, k < cnt → ∃ s, s < 127 ∧ sg k = nI s) (t1 t2 t3 t4 t5 t6 t7 t8 t9 : Int32) (te tc tt : Nat → Int32) (k1 k2 k3 k4 k5 : Int32) (ze : Zn 4 te) (zc : Zn 4 tc) (zt : Zn 4 tt) (m1 m2 m3 m4 m5 m6 : Int32) (a1 a2 a3 a4 a5 : Nat → Int32) : ∃ (r cnt' o' pc' rd' : Int32) (co' th' : Nat → Int32) (hid' : Int32) (rw' : Nat → Int32) (s1 s2 s3 s4 s5 s6 s7 s8 s9 : Int32) (se sc st : Nat → Int32) (l1 l2 l3 l4 l5 n1 n2 n3 n4 n5 n6 : Int32) (b1 b2 b3 b4 b5 : Nat → Int32),
    f_C_done (nI cnt) sg o pc rd ey co th t1 t2 t3 t4 t5 t6 t7 t8 t9 te tc tt k1 k2 k3 k4 k5 = some (r, cnt', o', pc', rd', ey, co', th', s1, s2, s3, s4, s5, s6, s7, s8, s9, se, sc, st, l1, l2, l3, l4, l5) ∧ f_M_done hid rd (nI cnt) m1 m2 m3 m4 m5 m6 rw_ ey co th sg a1 a2 a3 a4 a5 = some (r, hid', rd', cnt', n1, n2, n3, n4, n5, n6, rw', co', th', b1, b2, b3, b4, b5) ∧ Zn 4 se ∧ Zn 4 sc ∧ Zn 4 st ∧ TT o' pc' rd' ey co' th' rw' hid' ∧ (cnt' = nI cnt ∨ cnt' = nI 0) := by
  obtain ⟨fc, A, B1, Y1, W1, x1, x2, o1, pc1, rd1, ey1, co1, th1, g1, g2, g3, g4, g5, no, hid2, rd2, n2, W2, B2, Y2, y1, y2, rw2, co2, th2, ac, one, oth, mu, H, hC, hM, ⟨ze1, zc1, zt1⟩, hK, ⟨z6', zc', zt'⟩, hcase⟩ := follow_CM hT hc hs t1 t2 t3 t4 t5 t6 t7 t8 t9 te tc tt k1 k2 k3 k4 k5 ze zc zt m1 m2 m3 m4 m5 m6 a1 a2 a3 a4 a5
  obtain ⟨z6, z4e, z4c, z4t⟩ := hT.zs
  have hb : ∀ v, f_M_back v hid2 rd2 rw2 co2 th2 H = some (v, hid, rd, rw_, co, th) := fun v => back_K hK z6 z6' z4c zc' z4t zt'
  unfold f_C_done f_M_done
  rw [bind_some' hC, bind_some' hM]
  dsimp only
  rcases hcase with ⟨rfl, rfl⟩ | ⟨(⟨rfl, rfl, rfl⟩ | ⟨rfl, rfl⟩), rfl, rfl, rfl, rfl, rfl, rfl, rfl, rfl, rfl, hT1⟩
  · rw [if_neg (by decide), if_neg (by decide), bind_some' (hb _)]
    exact ⟨_, _, _, _, _, _, _, _, _, _, _, _, _, _, _, _, _, _, _, _, _, _, _, _, _, _, _, _, _, _, _, _, _, _, _, _, _, rfl, rfl, ze1, zc1, zt1, hT, Or.inl rfl⟩
  · obtain ⟨q6, q4e, q4c, q4t⟩ := hT1.zs
    rw [if_pos rfl, if_pos rfl, bind_some' (copyFrom_eq z4e z4c z4t q4e q4c q4t)]
    exact ⟨_, _, _, _, _, _, _, _, _, _, _, _, _, _, _, _, _, _, _, _, _, _, _, _, _, _, _, _, _, _, _, _, _, _, _, _, _, rfl, rfl, ze1, zc1, zt1, hT1, Or.inr rfl⟩
  · rw [if_neg (by decide), if_neg (by decide), bind_some' (hb _)]
    exact ⟨_, _, _, _, _, _, _, _, _, _, _, _, _, _, _, _, _, _, _, _, _, _, _, _, _, _, _, _, _, _, _, _, _, _, _, _, _, rfl, rfl, ze1, zc1, zt1, hT, Or.inl rfl⟩
end RO
