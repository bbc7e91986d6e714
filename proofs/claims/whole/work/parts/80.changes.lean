/-! the fewest changes, of any two, of neighbours: class and reference -/
set_option maxRecDepth 100000 in
theorem cyc_chk : chk6 (fun a b c d e f => decide (f_O_cyclesOf (or6 a b c d e f) = f_M_ringsOf (on6 (pl6 a b c d e f 0) (pl6 a b c d e f 1) (pl6 a b c d e f 2) (pl6 a b c d e f 3) (pl6 a b c d e f 4) (pl6 a b c d e f 5))) && (f_O_cyclesOf (or6 a b c d e f)).isSome) = true := by decide +kernel
set_option maxRecDepth 100000 in
theorem ivs_chk : chk6 (fun a b c d e f => decide (f_O_inversionsOf (or6 a b c d e f) = f_M_turnedPairs (on6 (pl6 a b c d e f 0) (pl6 a b c d e f 1) (pl6 a b c d e f 2) (pl6 a b c d e f 3) (pl6 a b c d e f 4) (pl6 a b c d e f 5))) && (f_O_inversionsOf (or6 a b c d e f)).isSome) = true := by decide +kernel
theorem cyc_eq {a b c d e f : Nat} (hp : P6 a b c d e f) : ∃ r, f_O_cyclesOf (or6 a b c d e f) = some r ∧ f_M_ringsOf (on6 (pl6 a b c d e f 0) (pl6 a b c d e f 1) (pl6 a b c d e f 2) (pl6 a b c d e f 3) (pl6 a b c d e f 4) (pl6 a b c d e f 5)) = some r := by
  have h := (Bool.and_eq_true _ _).mp (chk6_use cyc_chk hp)
  obtain ⟨r, hr⟩ := Option.isSome_iff_exists.mp h.2
  exact ⟨r, hr, by rw [← of_decide_eq_true h.1]; exact hr⟩
theorem ivs_eq {a b c d e f : Nat} (hp : P6 a b c d e f) : ∃ r, f_O_inversionsOf (or6 a b c d e f) = some r ∧ f_M_turnedPairs (on6 (pl6 a b c d e f 0) (pl6 a b c d e f 1) (pl6 a b c d e f 2) (pl6 a b c d e f 3) (pl6 a b c d e f 4) (pl6 a b c d e f 5)) = some r := by
  have h := (Bool.and_eq_true _ _).mp (chk6_use ivs_chk hp)
  obtain ⟨r, hr⟩ := Option.isSome_iff_exists.mp h.2
  exact ⟨r, hr, by rw [← of_decide_eq_true h.1]; exact hr⟩
set_option maxRecDepth 100000 in
theorem or_chk : chk6 (fun a b c d e f => decide (((((((0 ||| a * 8 ^ 0) ||| b * 8 ^ 1) ||| c * 8 ^ 2) ||| d * 8 ^ 3) ||| e * 8 ^ 4) ||| f * 8 ^ 5) = pk6 a b c d e f)) = true := by decide +kernel
def orF (m : Nat → Nat) : Nat → Nat
  | 0 => 0
  | i + 1 => orF m i ||| m i * 8 ^ i
/-- a row of goals, found place by place -/
def fgo (m : Nat → Nat) (g : Nat → Int32) : Nat → Nat → Int32
  | 0 => g
  | i + 1 => upd (fgo m g i) i (nI (m i))
theorem movesC {a b c d e f a' b' c' d' e' f' : Nat} (hp : P6 a b c d e f) (hq : P6 a' b' c' d' e' f') : f_O_movesBetween (or6 a b c d e f) (or6 a' b' c' d' e' f') = some (nI (orF (fun i => pl6 a b c d e f (l6 a' b' c' d' e' f' i)) 6)) := by
  unfold f_O_movesBetween
  refine it2_seq (F := bd_O_movesBetween_4 (or6 a b c d e f) (or6 a' b' c' d' e' f')) (fun i => nI (orF (fun i => pl6 a b c d e f (l6 a' b' c' d' e' f' i)) i)) (fun i => nI i) 6 ?_ ?_ 1100 (by decide)
  · intro i hi R
    show bd_O_movesBetween_4 _ _ R (nI (orF (fun i => pl6 a b c d e f (l6 a' b' c' d' e' f' i)) i)) (nI i) = R (nI (orF (fun i => pl6 a b c d e f (l6 a' b' c' d' e' f' i)) i ||| pl6 a b c d e f (l6 a' b' c' d' e' f' i) * 8 ^ i)) (nI (i + 1))
    have hl := pl6_lt a b c d e f (l6 a' b' c' d' e' f' i)
    unfold bd_O_movesBetween_4
    rw [if_neg (show ¬ (6 : Int32) ≤ nI i from nI_ge (b := 6) hi (by decide)), bind_some' (cup6 hq i hi), bind_some' (placeC hp (l6_lt hq i hi)), shl_nI (by omega) i hi, fa_or, nI_1]
  · intro R
    show bd_O_movesBetween_4 _ _ R (nI (orF (fun i => pl6 a b c d e f (l6 a' b' c' d' e' f' i)) 6)) (nI 6) = _
    unfold bd_O_movesBetween_4
    rw [if_pos (show (6 : Int32) ≤ nI 6 by decide)]
theorem goalsM {a b c d e f a' b' c' d' e' f' : Nat} (hp : P6 a b c d e f) (hq : P6 a' b' c' d' e' f') (g : Nat → Int32) : f_M_findGoals (on6 a b c d e f) (on6 a' b' c' d' e' f') g = some (fgo (fun i => pl6 a' b' c' d' e' f' (l6 a b c d e f i)) g 6) := by
  unfold f_M_findGoals
  refine it2_seq (F := bd_M_findGoals_2 (on6 a b c d e f) (on6 a' b' c' d' e' f')) (fun i => nI i) (fun i => fgo (fun i => pl6 a' b' c' d' e' f' (l6 a b c d e f i)) g i) 6 ?_ ?_ 1100 (by decide)
  · intro i hi R
    show bd_M_findGoals_2 _ _ R (nI i) (fgo (fun i => pl6 a' b' c' d' e' f' (l6 a b c d e f i)) g i) = R (nI (i + 1)) (upd (fgo (fun i => pl6 a' b' c' d' e' f' (l6 a b c d e f i)) g i) i (nI (pl6 a' b' c' d' e' f' (l6 a b c d e f i))))
    generalize fgo (fun i => pl6 a' b' c' d' e' f' (l6 a b c d e f i)) g i = G
    have hk := l6_lt hp i hi
    have hl := pl6_lt a' b' c' d' e' f' (l6 a b c d e f i)
    unfold bd_M_findGoals_2
    rw [if_neg (show ¬ (6 : Int32) ≤ nI i from nI_ge (b := 6) hi (by decide))]
    refine it2_seq (F := bd_M_findGoals_10 (nI i) (on6 a b c d e f) (on6 a' b' c' d' e' f') R) (fun j => nI j) (fun j => if pl6 a' b' c' d' e' f' (l6 a b c d e f i) < j then upd G i (nI (pl6 a' b' c' d' e' f' (l6 a b c d e f i))) else G) 6 ?_ ?_ 1100 (by decide)
    · intro j hj S
      show bd_M_findGoals_10 (nI i) _ _ R S (nI j) (if pl6 a' b' c' d' e' f' (l6 a b c d e f i) < j then upd G i (nI (pl6 a' b' c' d' e' f' (l6 a b c d e f i))) else G) = S (nI (j + 1)) (if pl6 a' b' c' d' e' f' (l6 a b c d e f i) < j + 1 then upd G i (nI (pl6 a' b' c' d' e' f' (l6 a b c d e f i))) else G)
      unfold bd_M_findGoals_10
      rw [if_neg (show ¬ (6 : Int32) ≤ nI j from nI_ge (b := 6) hj (by decide)), kx_nI hj (by decide), kx_nI hi (by decide), kx_nI hi (by decide), kx_nI hi (by decide), nI_clamp (show j < 2 ^ 31 by omega), nI_clamp (show i < 2 ^ 31 by omega), on6_l6 j hj, on6_l6 i hi, nI_1]
      have he : (nI (l6 a' b' c' d' e' f' j) = nI (l6 a b c d e f i)) ↔ j = pl6 a' b' c' d' e' f' (l6 a b c d e f i) := by
        rw [nI_eq (by have := l6_lt hq j hj; omega) (by omega)]
        exact l6_pl hq hj hk
      by_cases z : j = pl6 a' b' c' d' e' f' (l6 a b c d e f i)
      · rw [if_pos (he.mpr z), if_neg (by omega), if_pos (by omega), ← z]
      · rw [if_neg (fun y => z (he.mp y)), kx_nI hi (by decide), fa_upd_same rfl]
        by_cases y : pl6 a' b' c' d' e' f' (l6 a b c d e f i) < j
        · rw [if_pos y, if_pos (by omega)]
        · rw [if_neg y, if_neg (by omega)]
    · intro S
      show bd_M_findGoals_10 (nI i) _ _ R S (nI 6) (if pl6 a' b' c' d' e' f' (l6 a b c d e f i) < 6 then upd G i (nI (pl6 a' b' c' d' e' f' (l6 a b c d e f i))) else G) = _
      unfold bd_M_findGoals_10
      rw [if_pos (show (6 : Int32) ≤ nI 6 by decide), if_pos hl, nI_1]
  · intro R
    show bd_M_findGoals_2 _ _ R (nI 6) (fgo (fun i => pl6 a' b' c' d' e' f' (l6 a b c d e f i)) g 6) = _
    unfold bd_M_findGoals_2
    rw [if_pos (show (6 : Int32) ≤ nI 6 by decide)]
theorem between {a b c d e f a' b' c' d' e' f' : Nat} (hp : P6 a b c d e f) (hq : P6 a' b' c' d' e' f') {g : Nat → Int32} (hg : Zn 6 g) : ∃ s t u v w x, P6 s t u v w x ∧ f_O_movesBetween (or6 a b c d e f) (or6 a' b' c' d' e' f') = some (or6 s t u v w x) ∧ f_M_findGoals (on6 a b c d e f) (on6 a' b' c' d' e' f') g = some (on6 (pl6 s t u v w x 0) (pl6 s t u v w x 1) (pl6 s t u v w x 2) (pl6 s t u v w x 3) (pl6 s t u v w x 4) (pl6 s t u v w x 5)) := by
  obtain ⟨m, hm⟩ : ∃ m : Nat → Nat, m = fun i => pl6 a b c d e f (l6 a' b' c' d' e' f' i) := ⟨_, rfl⟩
  have hmi : ∀ i, m i = pl6 a b c d e f (l6 a' b' c' d' e' f' i) := fun i => by rw [hm]
  have hP : P6 (m 0) (m 1) (m 2) (m 3) (m 4) (m 5) := by
    refine P6.of_inj (l := m) (fun i hi => by rw [hmi]; exact pl6_lt _ _ _ _ _ _ _) (fun i j hi hj h => ?_)
    rw [hmi, hmi] at h
    have h1 := (l6_pl hp (pl6_lt a b c d e f _) (l6_lt hq i hi)).mpr rfl
    have h2 := (l6_pl hp (pl6_lt a b c d e f _) (l6_lt hq j hj)).mpr rfl
    rw [h, h2] at h1
    exact hq.inj i j hi hj h1.symm
  have hl : ∀ i, i < 6 → l6 (m 0) (m 1) (m 2) (m 3) (m 4) (m 5) i = m i := lt6 rfl rfl rfl rfl rfl rfl
  have hinv : ∀ i, i < 6 → pl6 (m 0) (m 1) (m 2) (m 3) (m 4) (m 5) i = pl6 a' b' c' d' e' f' (l6 a b c d e f i) := by
    intro i hi
    have hk := pl6_lt a' b' c' d' e' f' (l6 a b c d e f i)
    refine ((l6_pl hP hk hi).mp ?_).symm
    rw [hl _ hk, hmi]
    have h1 := (l6_pl hq hk (l6_lt hp i hi)).mpr rfl
    rw [h1]
    exact ((l6_pl hp hi (l6_lt hp i hi)).mp rfl).symm
  refine ⟨m 0, m 1, m 2, m 3, m 4, m 5, hP, ?_, ?_⟩
  · rw [movesC hp hq, ← hm]
    have h := of_decide_eq_true (chk6_use or_chk hP)
    unfold or6
    rw [← h]
    rfl
  · rw [goalsM hp hq, hinv 0 (by decide), hinv 1 (by decide), hinv 2 (by decide), hinv 3 (by decide), hinv 4 (by decide), hinv 5 (by decide)]
    have h := upd6 (on6 (pl6 a' b' c' d' e' f' (l6 a b c d e f 0)) (pl6 a' b' c' d' e' f' (l6 a b c d e f 1)) (pl6 a' b' c' d' e' f' (l6 a b c d e f 2)) (pl6 a' b' c' d' e' f' (l6 a b c d e f 3)) (pl6 a' b' c' d' e' f' (l6 a b c d e f 4)) (pl6 a' b' c' d' e' f' (l6 a b c d e f 5))) g
    rw [fill_eq on6_Z hg] at h
    rw [← h]
    rfl
theorem op_changes {o : Int32} {rw_ dd g : Nat → Int32} (p1 p2 : Int32) (ho : ∃ a b c d e f, P6 a b c d e f ∧ o = or6 a b c d e f ∧ rw_ = on6 a b c d e f) (hz : Zn 6 dd) (hg : Zn 6 g) : ∃ r D G, f_C_changes p1 p2 o = some r ∧ f_M_changes p1 p2 rw_ dd g = some (r, D, G) ∧ Zn 6 D ∧ Zn 6 G := by
  obtain ⟨a, b, c, d, e, f, hp, rfl, rfl⟩ := ho
  have i2 := inL_eq p2 (lo := 0) (hi := 1) (by decide) (by decide)
  unfold f_C_changes f_M_changes
  rcases readRow_cases p1 hz with ⟨a', b', c', d', e', f', hq, h1, h2⟩ | ⟨h1, D, hD, h2⟩
  · rw [bind_some' h1, bind_some' h2, if_neg (or6_ne hq), n10]
    rcases within_cases p2 (lo := 0) (hi := 1) (by decide) (by decide) with ⟨n, -, hn, rfl, w⟩ | w
    · rw [w] at i2
      obtain ⟨s, t, u, v, x, y, hP, hc, hm⟩ := between hp hq hg
      rw [bind_some' (show f_C_isWithin (nI n) 0 1 = some 1 from w), bind_some' (show f_M_in (Int32.toInt64 (nI n)) 0 1 = some 1 from i2), n10, n10, bind_some' hc, bind_some' hm]
      obtain ⟨r1, c1, m1⟩ := cyc_eq hP
      obtain ⟨r2, c2, m2⟩ := ivs_eq hP
      by_cases z : nI n = 0
      · rw [if_pos z, if_pos z, bind_some' c1, bind_some' m1]
        exact ⟨_, _, _, rfl, rfl, on6_Z, on6_Z⟩
      · rw [if_neg z, if_neg z, bind_some' c2, bind_some' m2]
        exact ⟨_, _, _, rfl, rfl, on6_Z, on6_Z⟩
    · rw [w] at i2
      rw [bind_some' (show f_C_isWithin p2 0 1 = some 0 from w), bind_some' (show f_M_in (Int32.toInt64 p2) 0 1 = some 0 from i2), y00, y00]
      exact ⟨_, _, _, rfl, rfl, on6_Z, hg⟩
  · rw [bind_some' h1, bind_some' h2, if_pos rfl, y00]
    exact ⟨_, _, _, rfl, rfl, hD, hg⟩
