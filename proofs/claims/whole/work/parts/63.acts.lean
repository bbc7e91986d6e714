/-! acts: what class and reference make of one act -/
set_option maxRecDepth 100000 in
theorem wbc_chk : ((List.range 64).all fun t => (List.range 6).all fun i => (List.range 6).all fun j => decide (f_T_withBitsChanged (nI t) (nI i) (nI j) = f_M_turned (nI t) (nI i) (nI j)) && decide (((f_M_turned (nI t) (nI i) (nI j)).getD 64).toNatClampNeg < 64 ∧ f_M_turned (nI t) (nI i) (nI j) = some (nI ((f_M_turned (nI t) (nI i) (nI j)).getD 64).toNatClampNeg))) = true := by decide +kernel
theorem wbc {t i j : Nat} (ht : t < 64) (hi : i < 6) (hj : j < 6) : ∃ x, x < 64 ∧ f_T_withBitsChanged (nI t) (nI i) (nI j) = some (nI x) ∧ f_M_turned (nI t) (nI i) (nI j) = some (nI x) := by
  have h := all_lt (all_lt (all_lt wbc_chk ht) hi) hj
  have h2 := (Bool.and_eq_true _ _).mp h
  have h3 := of_decide_eq_true h2.1
  have h4 := of_decide_eq_true h2.2
  exact ⟨_, h4.1, by rw [h3]; exact h4.2, h4.2⟩
/-- thoughts behind a change -/
noncomputable def vch (q i j : Nat) (ey th : Nat → Int32) (w : Nat) : Int32 := if ey w < nI q then 63 else (f_M_turned (th w) (nI i) (nI j)).getD 0
theorem vch_lt {q i j : Nat} {ey th : Nat → Int32} (hi : i < 6) (hj : j < 6) (hth : ∀ w, w < 4 → ∃ t, t < 64 ∧ th w = nI t) (w : Nat) (hw : w < 4) : ∃ t, t < 64 ∧ vch q i j ey th w = nI t := by
  unfold vch
  split
  · exact ⟨63, by decide, rfl⟩
  · obtain ⟨t, ht, e⟩ := hth w hw
    obtain ⟨x, hx, -, e2⟩ := wbc ht hi hj
    rw [e, e2]
    exact ⟨x, hx, rfl⟩
theorem changeC {q i j : Nat} {o o' : Int32} {ey th : Nat → Int32} (hi : i < 6) (hj : j < 6) (ho : f_O_changed o (nI i) (nI j) = some o') (hth : ∀ w, w < 4 → ∃ t, t < 64 ∧ th w = nI t) : f_T_change (nI i) (nI j) (nI q) o ey th = some (o', fa_fill (vch q i j ey th) th 4) := by
  unfold f_T_change
  rw [bind_some' ho]
  have h := it2_seq (F := bd_T_change_16 (nI i) (nI j) (nI q) o' ey) (fun w => nI w) (fun w => fa_fill (vch q i j ey th) th w) 4 (K := some (o', fa_fill (vch q i j ey th) th 4)) ?_ ?_ 1100 (by decide)
  · rw [fa_fill_0] at h
    exact h
  · intro w hw r
    show bd_T_change_16 _ _ _ _ _ r (nI w) _ = r (nI (w + 1)) (fa_fill _ _ (w + 1))
    unfold bd_T_change_16
    rw [if_neg (show ¬ (4 : Int32) ≤ nI w from nI_ge hw (by decide))]
    simp only [kx_nI hw (show 4 < 2 ^ 31 by decide), nI_clamp (show w < 2 ^ 31 by omega), nI_1]
    rw [fa_fill_out (Nat.le_refl w), ← fa_fill_succ]
    unfold vch
    by_cases z : ey w < nI q
    · rw [if_pos z, if_pos z]
    · rw [if_neg z, if_neg z]
      obtain ⟨t, ht, e⟩ := hth w hw
      obtain ⟨x, -, e1, e2⟩ := wbc ht hi hj
      rw [e, bind_some' e1, e2]
      rfl
  · intro r
    show bd_T_change_16 _ _ _ _ _ r (nI 4) _ = _
    unfold bd_T_change_16
    rw [if_pos (show (4 : Int32) ≤ nI 4 from by decide)]
theorem changeM {q i j : Nat} {on ey th : Nat → Int32} (hi : i < 6) (hj : j < 6) (hth : ∀ w, w < 4 → ∃ t, t < 64 ∧ th w = nI t) : f_M_change (nI i) (nI j) (nI q) on ey th = some (upd (upd on i (on j)) j (on i), fa_fill (vch q i j ey th) th 4) := by
  unfold f_M_change
  simp only [kx_nI hi (show 6 < 2 ^ 31 by decide), kx_nI hj (show 6 < 2 ^ 31 by decide), nI_clamp (show i < 2 ^ 31 by omega), nI_clamp (show j < 2 ^ 31 by omega)]
  have h := it2_seq (F := bd_M_change_31 (nI i) (nI j) (nI q) (upd (upd on i (on j)) j (on i)) ey) (fun w => nI w) (fun w => fa_fill (vch q i j ey th) th w) 4 (K := some (upd (upd on i (on j)) j (on i), fa_fill (vch q i j ey th) th 4)) ?_ ?_ 1100 (by decide)
  · rw [fa_fill_0] at h
    exact h
  · intro w hw r
    show bd_M_change_31 _ _ _ _ _ r (nI w) _ = r (nI (w + 1)) (fa_fill _ _ (w + 1))
    unfold bd_M_change_31
    rw [if_neg (show ¬ (4 : Int32) ≤ nI w from nI_ge hw (by decide))]
    simp only [kx_nI hw (show 4 < 2 ^ 31 by decide), nI_clamp (show w < 2 ^ 31 by omega), nI_1]
    rw [fa_fill_out (Nat.le_refl w), ← fa_fill_succ]
    unfold vch
    by_cases z : ey w < nI q
    · rw [if_pos z, if_pos z]
    · rw [if_neg z, if_neg z]
      obtain ⟨t, ht, e⟩ := hth w hw
      obtain ⟨x, -, e1, e2⟩ := wbc ht hi hj
      rw [e, e2]
      rfl
  · intro r
    show bd_M_change_31 _ _ _ _ _ r (nI 4) _ = _
    unfold bd_M_change_31
    rw [if_pos (show (4 : Int32) ≤ nI 4 from by decide)]
/-- thoughts behind a lift -/
def vli (y : Int32) (i : Nat) (th : Nat → Int32) (w : Nat) : Int32 := if y = 0 then (if (th w &&& (((1 : Int32) <<< (nI i &&& 31)) ^^^ (-1))) = 0 then 63 &&& (((1 : Int32) <<< (nI i &&& 31)) ^^^ (-1)) else th w &&& (((1 : Int32) <<< (nI i &&& 31)) ^^^ (-1))) else (1 : Int32) <<< (nI i &&& 31)
theorem vli_chk : ((List.range 64).all fun t => (List.range 6).all fun i => (List.range 2).all fun y => decide ((vli (nI y) i (fun _ => nI t) 0).toNatClampNeg < 64 ∧ vli (nI y) i (fun _ => nI t) 0 = nI (vli (nI y) i (fun _ => nI t) 0).toNatClampNeg)) = true := by decide +kernel
theorem vli_lt {y i : Nat} {th : Nat → Int32} (hy : y < 2) (hi : i < 6) (hth : ∀ w, w < 4 → ∃ t, t < 64 ∧ th w = nI t) (w : Nat) (hw : w < 4) : ∃ t, t < 64 ∧ vli (nI y) i th w = nI t := by
  obtain ⟨t, ht, e⟩ := hth w hw
  have h := of_decide_eq_true (all_lt (all_lt (all_lt vli_chk ht) hi) hy)
  have e2 : vli (nI y) i th w = vli (nI y) i (fun _ => nI t) 0 := by unfold vli; rw [e]
  rw [e2]
  exact ⟨_, h⟩
theorem liftC {i : Nat} {pp o pc : Int32} {th : Nat → Int32} (h : f_T_peaPlace o pc = some pp) : f_T_lift (nI i) o pc th = some (fa_fill (vli (if pp = nI i then 1 else 0) i th) th 4) := by
  have key : ∀ y : Int32, it2 (bd_T_lift_21 ((1 : Int32) <<< (nI i &&& 31)) y o pc) 1100 0 th = some (fa_fill (vli y i th) th 4) := by
    intro y
    have h := it2_seq (F := bd_T_lift_21 ((1 : Int32) <<< (nI i &&& 31)) y o pc) (fun w => nI w) (fun w => fa_fill (vli y i th) th w) 4 (K := some (fa_fill (vli y i th) th 4)) ?_ ?_ 1100 (by decide)
    · rw [fa_fill_0] at h
      exact h
    · intro w hw r
      show bd_T_lift_21 _ _ _ _ r (nI w) _ = r (nI (w + 1)) (fa_fill _ _ (w + 1))
      unfold bd_T_lift_21
      rw [if_neg (show ¬ (4 : Int32) ≤ nI w from nI_ge hw (by decide))]
      simp only [kx_nI hw (show 4 < 2 ^ 31 by decide), nI_clamp (show w < 2 ^ 31 by omega), nI_1]
      rw [fa_fill_out (Nat.le_refl w), ← fa_fill_succ]
      unfold vli
      by_cases z : y = 0
      · rw [if_pos z, if_pos z]
        by_cases z2 : (th w &&& (((1 : Int32) <<< (nI i &&& 31)) ^^^ (-1))) = 0
        · rw [if_pos z2, if_pos z2]
        · rw [if_neg z2, if_neg z2]
      · rw [if_neg z, if_neg z]
    · intro r
      show bd_T_lift_21 _ _ _ _ r (nI 4) _ = _
      unfold bd_T_lift_21
      rw [if_pos (show (4 : Int32) ≤ nI 4 from by decide)]
  unfold f_T_lift
  rw [bind_some' h]
  by_cases q : pp = nI i
  · rw [if_pos q, if_pos q]; exact key 1
  · rw [if_neg q, if_neg q]; exact key 0
theorem liftM {i : Nat} {pp hid : Int32} {on th : Nat → Int32} (h : f_M_peaPlace hid on = some pp) : f_M_lift (nI i) hid on th = some (fa_fill (vli (if pp = nI i then 1 else 0) i th) th 4) := by
  have key : ∀ y : Int32, it2 (bd_M_lift_16 (nI i) y hid on) 1100 0 th = some (fa_fill (vli y i th) th 4) := by
    intro y
    have h := it2_seq (F := bd_M_lift_16 (nI i) y hid on) (fun w => nI w) (fun w => fa_fill (vli y i th) th w) 4 (K := some (fa_fill (vli y i th) th 4)) ?_ ?_ 1100 (by decide)
    · rw [fa_fill_0] at h
      exact h
    · intro w hw r
      show bd_M_lift_16 _ _ _ _ r (nI w) _ = r (nI (w + 1)) (fa_fill _ _ (w + 1))
      unfold bd_M_lift_16
      rw [if_neg (show ¬ (4 : Int32) ≤ nI w from nI_ge hw (by decide))]
      simp only [kx_nI hw (show 4 < 2 ^ 31 by decide), nI_clamp (show w < 2 ^ 31 by omega), nI_1]
      rw [fa_fill_out (Nat.le_refl w), ← fa_fill_succ]
      unfold vli
      by_cases z : y = 0
      · rw [if_pos z, if_pos z]
        by_cases z2 : (th w &&& (((1 : Int32) <<< (nI i &&& 31)) ^^^ (-1))) = 0
        · rw [if_pos z2, if_pos z2]
        · rw [if_neg z2, if_neg z2]
      · rw [if_neg z, if_neg z]
    · intro r
      show bd_M_lift_16 _ _ _ _ r (nI 4) _ = _
      unfold bd_M_lift_16
      rw [if_pos (show (4 : Int32) ≤ nI 4 from by decide)]
  unfold f_M_lift
  rw [bind_some' h]
  by_cases q : pp = nI i
  · rw [if_pos q, if_pos q]; exact key 1
  · rw [if_neg q, if_neg q]; exact key 0
/-- an act: class's fields (kind, place, other place, watcher, number) and the reference's (what, a, b, v) -/
def AR (kd pl ot wa nu what a b v : Int32) : Prop :=
  (kd = 0 ∧ what = 0 ∧ ∃ i j q, i < 6 ∧ j < 6 ∧ 1 ≤ q ∧ q ≤ 9 ∧ pl = nI i ∧ ot = nI j ∧ nu = nI q ∧ a = nI i ∧ b = nI j ∧ v = nI q) ∨
  (kd = 1 ∧ what = 1 ∧ ∃ i, i < 6 ∧ pl = nI i ∧ a = nI i) ∨
  (kd = 2 ∧ what = 2 ∧ ∃ i, i < 6 ∧ pl = nI i ∧ a = nI i) ∨
  (kd = 3 ∧ what = 3 ∧ ∃ w i q, w < 4 ∧ i < 6 ∧ 1 ≤ q ∧ q ≤ 9 ∧ wa = nI w ∧ pl = nI i ∧ nu = nI q ∧ a = nI w ∧ b = nI i ∧ v = nI q) ∨
  (kd = 4 ∧ what = 4)
theorem isWatcher_nI {w : Nat} (hw : w < 4) : f_C_isWatcher (nI w) = some 1 := by
  unfold f_C_isWatcher
  rw [if_neg (nI_pos (by omega)), if_neg (show ¬ (4 : Int32) ≤ nI w from nI_ge hw (by decide))]
theorem coinOf_nI {w : Nat} {co : Nat → Int32} (hw : w < 4) : f_T_coinOf (nI w) co = some (co w) := by
  unfold f_T_coinOf
  rw [bind_some' (isWatcher_nI hw), if_neg (by decide), kx_nI hw (by decide), nI_clamp (by omega)]
