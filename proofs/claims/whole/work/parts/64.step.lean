/-! one act on one table: class and reference -/
theorem whyNot_TT {o pc rd hid kd pl ot wa nu what a b v : Int32} {ey co th on : Nat → Int32} (h : TT o pc rd ey co th on hid) (hA : AR kd pl ot wa nu what a b v) : ∃ y, y ≤ 4 ∧ f_T_whyNot o pc rd co kd pl ot wa nu = some (nI y) ∧ f_M_whyNot what a b v hid rd on co = some (nI y) := by
  obtain ⟨⟨a1, b1, c1, d1, e1, f1, hp, rfl, rfl⟩, hpea, ⟨r, hr, rfl⟩, -, hco, -⟩ := h
  rcases hA with ⟨rfl, rfl, i, j, q, hi, hj, hq1, hq2, rfl, rfl, rfl, rfl, rfl, rfl⟩ | ⟨rfl, rfl, i, hi, rfl, rfl⟩ | ⟨rfl, rfl, i, hi, rfl, rfl⟩ | ⟨rfl, rfl, w, i, q, hw, hi, hq1, hq2, rfl, rfl, rfl, rfl, rfl, rfl⟩ | ⟨rfl, rfl⟩
  · unfold f_T_whyNot f_M_whyNot
    rw [if_pos rfl, if_pos rfl]
    by_cases z : nI i = nI j
    · exact ⟨1, by decide, if_pos z, if_pos z⟩
    · exact ⟨0, by decide, if_neg z, if_neg z⟩
  · exact ⟨0, by decide, rfl, rfl⟩
  · have eC : f_T_whyNot (or6 a1 b1 c1 d1 e1 f1) pc (nI r) co 2 (nI i) ot wa nu = if pc = (-1) then some 0 else (f_T_peaPlace (or6 a1 b1 c1 d1 e1 f1) pc).bind (fun u => if u = nI i then some 0 else some 2) := rfl
    have eM : f_M_whyNot 2 (nI i) b v hid (nI r) (on6 a1 b1 c1 d1 e1 f1) co = if hid < 0 then some 0 else kx 6 (nI i) (if on6 a1 b1 c1 d1 e1 f1 (nI i).toNatClampNeg = hid then some 0 else some 2) := rfl
    rw [eC, eM]
    rcases hpea with ⟨rfl, rfl⟩ | ⟨k, hk, rfl, rfl⟩
    · exact ⟨0, by decide, rfl, rfl⟩
    · rw [if_neg (nI_ne_m1 (by omega)), if_neg (nI_pos (by omega)), kx_nI hi (by decide), nI_clamp (by omega), on6_l6 i hi]
      have hP : f_T_peaPlace (or6 a1 b1 c1 d1 e1 f1) (nI k) = some (nI (pl6 a1 b1 c1 d1 e1 f1 k)) := by
        unfold f_T_peaPlace
        rw [if_neg (nI_ne_m1 (by omega)), bind_id, placeC hp hk]
      rw [bind_some' hP]
      have hl := l6_lt hp i hi
      have hq := pl6_lt a1 b1 c1 d1 e1 f1 k
      by_cases z : i = pl6 a1 b1 c1 d1 e1 f1 k
      · exact ⟨0, by decide, if_pos (by rw [← z]), if_pos (by rw [(l6_pl hp hi hk).mpr z])⟩
      · exact ⟨2, by decide, if_neg (fun y => z ((nI_eq (by omega) (by omega)).mp y).symm), if_neg (fun y => z ((l6_pl hp hi hk).mp ((nI_eq (by omega) (by omega)).mp y)))⟩
  · unfold f_T_whyNot f_M_whyNot
    rw [if_neg (by decide), if_neg (by decide), if_neg (by decide), if_pos rfl, if_neg (by decide), if_neg (by decide), if_neg (by decide), if_pos rfl, bind_some' (coinOf_nI hw), kx_nI hw (by decide), nI_clamp (by omega)]
    by_cases z : nI q ≤ co w
    · exact ⟨0, by decide, if_pos z, if_pos z⟩
    · exact ⟨3, by decide, if_neg z, if_neg z⟩
  · have eC : f_T_whyNot (or6 a1 b1 c1 d1 e1 f1) pc (nI r) co 4 pl ot wa nu = if nI r < 99 then some 0 else some 4 := rfl
    have eM : f_M_whyNot 4 a b v hid (nI r) (on6 a1 b1 c1 d1 e1 f1) co = if nI r = 99 then some 4 else some 0 := rfl
    rw [eC, eM]
    by_cases z : r = 99
    · subst z
      exact ⟨4, by decide, rfl, rfl⟩
    · exact ⟨0, by decide, if_pos (nI_lt (b := 99) (by omega) (by decide)), if_neg (fun y => z ((nI_eq (b := 99) (by omega) (by decide)).mp y))⟩
theorem th_fill {val th : Nat → Int32} (hv : ∀ w, w < 4 → ∃ t, t < 64 ∧ val w = nI t) : ∀ w, w < 4 → ∃ t, t < 64 ∧ fa_fill val th 4 w = nI t := fun w hw => by
  rw [fa_fill_in hw]; exact hv w hw
theorem act_TT {o pc rd hid kd pl ot wa nu what a b v : Int32} {ey co th on : Nat → Int32} (h : TT o pc rd ey co th on hid) (hA : AR kd pl ot wa nu what a b v) (hy : f_T_whyNot o pc rd co kd pl ot wa nu = some 0) (won : Int32) :
    ∃ (y : Int32) (o' pc' rd' : Int32) (co' th' : Nat → Int32) (hid' : Int32) (on' : Nat → Int32), (y = 0 ∨ y = 1) ∧ f_T_isWon o pc kd pl = some y ∧ f_T_perform o pc rd ey co th kd pl ot wa nu = some (o', pc', rd', co', th') ∧ f_M_happen what a b v hid rd won on ey co th = some (hid', rd', (if y = 0 then won else won + 1), on', co', th') ∧ TT o' pc' rd' ey co' th' on' hid' := by
  obtain ⟨pp, hpC, hpM, hpp⟩ := peaPlace_TT h
  obtain ⟨⟨a1, b1, c1, d1, e1, f1, hp, rfl, rfl⟩, hpea, ⟨r, hr, rfl⟩, ⟨z1, z2, z3⟩, hco, hth⟩ := h
  rcases hA with ⟨rfl, rfl, i, j, q, hi, hj, hq1, hq2, rfl, rfl, rfl, rfl, rfl, rfl⟩ | ⟨rfl, rfl, i, hi, rfl, rfl⟩ | ⟨rfl, rfl, i, hi, rfl, rfl⟩ | ⟨rfl, rfl, w, i, q, hw, hi, hq1, hq2, rfl, rfl, rfl, rfl, rfl, rfl⟩ | ⟨rfl, rfl⟩
  · obtain ⟨a', b', c', d', e', f', hp', hC, hM, -⟩ := swap6 hp hi hj
    refine ⟨0, or6 a' b' c' d' e' f', pc, nI r, co, fa_fill (vch q i j ey th) th 4, hid, on6 a' b' c' d' e' f', Or.inl rfl, rfl, ?_, ?_, ⟨_, _, _, _, _, _, hp', rfl, rfl⟩, hpea, ⟨r, hr, rfl⟩, ⟨z1, z2, Zn.fill z3⟩, hco, th_fill (vch_lt hi hj hth)⟩
    · unfold f_T_perform
      rw [if_pos rfl, bind_some' (changeC hi hj hC hth)]
    · unfold f_M_happen
      rw [if_pos rfl, bind_some' (changeM hi hj hth), hM]
      rfl
  · refine ⟨0, or6 a1 b1 c1 d1 e1 f1, pc, nI r, co, fa_fill (vli (if pp = nI i then 1 else 0) i th) th 4, hid, on6 a1 b1 c1 d1 e1 f1, Or.inl rfl, rfl, ?_, ?_, ⟨_, _, _, _, _, _, hp, rfl, rfl⟩, hpea, ⟨r, hr, rfl⟩, ⟨z1, z2, Zn.fill z3⟩, hco, ?_⟩
    · unfold f_T_perform
      rw [if_neg (by decide), if_pos rfl, bind_some' (liftC hpC)]
    · unfold f_M_happen
      rw [if_neg (by decide), if_pos rfl, bind_some' (liftM hpM)]
      rfl
    · by_cases z : pp = nI i
      · rw [if_pos z]; exact th_fill (vli_lt (y := 1) (by decide) hi hth)
      · rw [if_neg z]; exact th_fill (vli_lt (y := 0) (by decide) hi hth)
  · rcases hpea with ⟨rfl, rfl⟩ | ⟨k, hk, rfl, rfl⟩
    · refine ⟨0, or6 a1 b1 c1 d1 e1 f1, nI (l6 a1 b1 c1 d1 e1 f1 i), nI r, co, th, nI (l6 a1 b1 c1 d1 e1 f1 i), on6 a1 b1 c1 d1 e1 f1, Or.inl rfl, rfl, ?_, ?_, ⟨_, _, _, _, _, _, hp, rfl, rfl⟩, Or.inr ⟨_, l6_lt hp i hi, rfl, rfl⟩, ⟨r, hr, rfl⟩, ⟨z1, z2, z3⟩, hco, hth⟩
      · unfold f_T_perform
        rw [if_neg (by decide), if_neg (by decide), if_pos rfl, if_pos rfl, bind_some' (cup6 hp i hi)]
      · unfold f_M_happen
        rw [if_neg (by decide), if_neg (by decide), if_pos rfl, if_neg (by decide), kx_nI hi (by decide), nI_clamp (by omega), on6_l6 i hi]
        rfl
    · refine ⟨0, or6 a1 b1 c1 d1 e1 f1, -1, nI r, co, th, -6, on6 a1 b1 c1 d1 e1 f1, Or.inl rfl, rfl, ?_, ?_, ⟨_, _, _, _, _, _, hp, rfl, rfl⟩, Or.inl ⟨rfl, rfl⟩, ⟨r, hr, rfl⟩, ⟨z1, z2, z3⟩, hco, hth⟩
      · unfold f_T_perform
        rw [if_neg (by decide), if_neg (by decide), if_pos rfl, if_neg (nI_ne_m1 (by omega))]
      · unfold f_M_happen
        rw [if_neg (by decide), if_neg (by decide), if_pos rfl, if_pos (nI_pos' (by omega))]
        rfl
  · have hle : nI q ≤ co w := by
      unfold f_T_whyNot at hy
      rw [if_neg (by decide), if_neg (by decide), if_neg (by decide), if_pos rfl, bind_some' (coinOf_nI hw)] at hy
      by_cases z : nI q ≤ co w
      · exact z
      · rw [if_neg z] at hy
        exact absurd (Option.some.inj hy) (by decide)
    obtain ⟨n, hn, en⟩ := hco w hw
    rw [en] at hle
    have hqn : q ≤ n := (nI_leI (by omega) (by omega)).mp hle
    have hwon : f_T_isWon (or6 a1 b1 c1 d1 e1 f1) pc 3 (nI i) = some (if pp = nI i then 1 else 0) := by
      unfold f_T_isWon
      rw [if_pos rfl, bind_some' hpC]
      by_cases z : pp = nI i
      · rw [if_pos z, if_pos z]
      · rw [if_neg z, if_neg z]
    have hpay : ∀ x : Int32, f_T_pay (nI w) x co = some (upd co w (if nI n + x < 999 then nI n + x else 999)) := by
      intro x
      unfold f_T_pay
      rw [bind_some' (isWatcher_nI hw), if_neg (by decide), kx_nI hw (by decide), kx_nI hw (by decide), nI_clamp (by omega), en]
    have hcoU : ∀ x, x ≤ 999 → ∀ w', w' < 4 → ∃ q, q ≤ 999 ∧ upd co w (nI x) w' = nI q := by
      intro x hx w' hw'
      by_cases z : w' = w
      · subst z; exact ⟨x, hx, upd_at⟩
      · rw [upd_ne z]; exact hco w' hw'
    by_cases z : pp = nI i
    · rw [if_pos z] at hwon
      refine ⟨1, or6 a1 b1 c1 d1 e1 f1, pc, nI r, upd co w (nI (if n + q < 999 then n + q else 999)), th, hid, on6 a1 b1 c1 d1 e1 f1, Or.inr rfl, hwon, ?_, ?_, ⟨_, _, _, _, _, _, hp, rfl, rfl⟩, hpea, ⟨r, hr, rfl⟩, ⟨z1, z2.upd hw, z3⟩, hcoU _ (by split <;> omega), hth⟩
      · unfold f_T_perform
        rw [if_neg (by decide), if_neg (by decide), if_neg (by decide), if_pos rfl, bind_some' hwon, if_neg (by decide)]
        unfold jn_T_perform_121
        rw [bind_some' (hpay _), nI_add]
        by_cases y : n + q < 999
        · rw [if_pos (show nI (n + q) < 999 from nI_lt (b := 999) y (by decide)), if_pos y]
        · rw [if_neg (show ¬ nI (n + q) < 999 from nI_nlt (b := 999) (by omega) (by omega)), if_neg y]
          rfl
      · unfold f_M_happen f_M_bet
        rw [if_neg (by decide), if_neg (by decide), if_neg (by decide), if_pos rfl, bind_some' hpM, if_pos z]
        unfold jn_M_bet_13 f_M_less jn_M_bet_50
        rw [if_neg (by decide), kx_nI hw (by decide), nI_clamp (by omega), en, nI_add]
        by_cases y : n + q < 999
        · rw [if_pos (show nI (n + q) ≤ 999 from nI_le (b := 999) (by omega) (by decide)), if_pos y, bind_some' rfl, kx_nI hw (by decide), if_neg (by decide)]
          rfl
        · rw [if_neg y]
          by_cases y2 : n + q = 999
          · rw [y2, if_pos (show nI 999 ≤ 999 from by decide), bind_some' rfl, kx_nI hw (by decide), if_neg (by decide)]
            rfl
          · rw [if_neg (show ¬ nI (n + q) ≤ 999 from nI_ge (a := 999) (by omega) (by omega)), bind_some' rfl, kx_nI hw (by decide), if_neg (by decide)]
            rfl
    · rw [if_neg z] at hwon
      have hneg : nI n + -nI q = nI (n - q) := by
        rw [← pk_sub hqn, Int32.sub_eq_add_neg]
      refine ⟨0, or6 a1 b1 c1 d1 e1 f1, pc, nI r, upd co w (nI (n - q)), th, hid, on6 a1 b1 c1 d1 e1 f1, Or.inl rfl, hwon, ?_, ?_, ⟨_, _, _, _, _, _, hp, rfl, rfl⟩, hpea, ⟨r, hr, rfl⟩, ⟨z1, z2.upd hw, z3⟩, hcoU _ (by omega), hth⟩
      · unfold f_T_perform
        rw [if_neg (by decide), if_neg (by decide), if_neg (by decide), if_pos rfl, bind_some' hwon, if_pos rfl]
        unfold jn_T_perform_121
        rw [bind_some' (hpay _), hneg, if_pos (show nI (n - q) < 999 from nI_lt (b := 999) (by omega) (by decide))]
      · unfold f_M_happen f_M_bet
        rw [if_neg (by decide), if_neg (by decide), if_neg (by decide), if_pos rfl, bind_some' hpM, if_neg z]
        unfold jn_M_bet_13 jn_M_bet_50
        rw [if_pos rfl, kx_nI hw (by decide), nI_clamp (by omega), en, pk_sub hqn, kx_nI hw (by decide), if_pos rfl, Int32.add_zero]
        rfl
  · have hr98 : r ≤ 98 := by
      unfold f_T_whyNot at hy
      rw [if_neg (by decide), if_neg (by decide), if_neg (by decide), if_neg (by decide), if_pos rfl] at hy
      by_cases z : r ≤ 98
      · exact z
      · rw [if_neg (show ¬ nI r < 99 from nI_nlt (b := 99) (by omega) (by omega))] at hy
        exact absurd (Option.some.inj hy) (by decide)
    refine ⟨0, or6 a1 b1 c1 d1 e1 f1, pc, nI (r + 1), co, th, hid, on6 a1 b1 c1 d1 e1 f1, Or.inl rfl, rfl, ?_, ?_, ⟨_, _, _, _, _, _, hp, rfl, rfl⟩, hpea, ⟨r + 1, by omega, rfl⟩, ⟨z1, z2, z3⟩, hco, hth⟩
    · unfold f_T_perform
      rw [if_neg (by decide), if_neg (by decide), if_neg (by decide), if_neg (by decide), nI_1]
    · unfold f_M_happen
      rw [if_neg (by decide), if_neg (by decide), if_neg (by decide), if_neg (by decide), nI_1]
      rfl
