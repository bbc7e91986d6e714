/-! the text: one sign, then the whole text: where its fault is, and which acts stand in the reference's rows -/
set_option maxHeartbeats 1000000 in
theorem text_step {cnt p q n : Nat} {sg : Nat → Int32} {pos : Nat → Nat} {ac on ot mu : Nat → Int32} {hd of : Int32} (hc : cnt ≤ 60) (hp : p < cnt) (hs : ∃ s, s < 127 ∧ sg p = nI s) (hD : DONE sg n pos ac on ot mu) (hpos : p = pos n + offq q) (hS : ST sg (pos n) q hd of (on n) (ot n)) :
    ∃ (dv : Int32) (n' : Nat) (ac' on' ot' mu' : Nat → Int32), f_M_readOn (nI q) (sg p) (nI n) ac on ot mu = some (dv, nI n', ac', on', ot', mu') ∧ ((dv = -6 ∧ ∀ r, bd_D_faultPlace_6 (nI cnt) sg r hd of (nI p) = some (nI p)) ∨
      ∃ (q' : Nat) (hd' of' : Int32) (pos' : Nat → Nat), dv = nI q' ∧ DONE sg n' pos' ac' on' ot' mu' ∧ p + 1 = pos' n' + offq q' ∧ ST sg (pos' n') q' hd' of' (on' n') (ot' n') ∧ ∀ r, bd_D_faultPlace_6 (nI cnt) sg r hd of (nI p) = r hd' of' (nI (p + 1))) := by
  obtain ⟨s, hs, es⟩ := hs
  have hn : n < 60 := by
    have := hD.le n (Nat.le_refl n)
    omega
  rw [es]
  rcases hS with ⟨rfl, rfl⟩ | ⟨rfl, rfl, rfl, k1⟩ | ⟨rfl, rfl, rfl, k1, i, hi, k2, k3⟩ | ⟨rfl, rfl, rfl, k1, i, j, hi, hj, k2, k3, k4, k5⟩ | ⟨rfl, rfl, rfl, k1⟩ | ⟨rfl, rfl, rfl, k1⟩ | ⟨rfl, rfl, l, hl, rfl, k1, k2⟩ | ⟨rfl, rfl, l, i, hl, hi, rfl, k1, k2, k3, k4⟩
  · have hp0 : p = pos n := hpos
    have hDn : DONE sg n pos ac (upd on n 0) (upd ot n 0) (upd mu n 0) := hD.congr same_lt upd_lt upd_lt upd_lt
    by_cases h46 : s = 46
    · subst h46
      have hD4 : DONE sg n pos (upd ac n 4) (upd on n 0) (upd ot n 0) (upd mu n 0) := hDn.congr upd_lt same_lt same_lt same_lt
      obtain ⟨pos', hD5, e5⟩ := hD4.push (L := 1) (by decide) (Or.inr (Or.inr (Or.inr (Or.inr ⟨by rw [← hp0]; exact es, rfl, upd_at⟩))))
      exact ⟨0, n + 1, _, _, _, _, rM0_46 hn, Or.inr ⟨0, 46, 0, pos', rfl, hD5, by rw [e5, hp0]; rfl, Or.inl ⟨rfl, rfl⟩, fun r => by rw [cb_open hp hc, es, if_pos rfl, ← nI_1 p]; exact rC0_46⟩⟩
    · by_cases h104 : s = 104
      · subst h104
        exact ⟨5, n, _, _, _, _, rM0_104 hn, Or.inr ⟨5, 104, 1, pos, rfl, hDn, by rw [hp0]; rfl, Or.inr (Or.inr (Or.inr (Or.inr (Or.inr (Or.inl ⟨rfl, rfl, rfl, by rw [← hp0]; exact es⟩))))), fun r => by rw [cb_open hp hc, es, if_pos rfl, ← nI_1 p]; exact rC0_104⟩⟩
      · by_cases h108 : s = 108
        · subst h108
          exact ⟨4, n, _, _, _, _, rM0_108 hn, Or.inr ⟨4, 108, 1, pos, rfl, hDn, by rw [hp0]; rfl, Or.inr (Or.inr (Or.inr (Or.inr (Or.inl ⟨rfl, rfl, rfl, by rw [← hp0]; exact es⟩)))), fun r => by rw [cb_open hp hc, es, if_pos rfl, ← nI_1 p]; exact rC0_108⟩⟩
        · by_cases h115 : s = 115
          · subst h115
            exact ⟨1, n, _, _, _, _, rM0_115 hn, Or.inr ⟨1, 115, 1, pos, rfl, hDn, by rw [hp0]; rfl, Or.inr (Or.inl ⟨rfl, rfl, rfl, by rw [← hp0]; exact es⟩), fun r => by rw [cb_open hp hc, es, if_pos rfl, ← nI_1 p]; exact rC0_115⟩⟩
          · by_cases hle : 65 ≤ s ∧ s ≤ 68
            · obtain ⟨l, hl, rfl⟩ : ∃ l, l < 4 ∧ s = 65 + l := ⟨s - 65, by omega, by omega⟩
              have hDl : DONE sg n pos ac (upd on n (nI l)) (upd ot n 0) (upd mu n 0) := hD.congr same_lt upd_lt upd_lt upd_lt
              exact ⟨6, n, _, _, _, _, rM0_let hn l hl, Or.inr ⟨6, nI (65 + l), 1, pos, rfl, hDl, by rw [hp0]; rfl, Or.inr (Or.inr (Or.inr (Or.inr (Or.inr (Or.inr (Or.inl ⟨rfl, rfl, l, hl, rfl, by rw [← hp0]; exact es, upd_at⟩)))))), fun r => by rw [cb_open hp hc, es, if_pos rfl, ← nI_1 p]; exact rC0_let l hl⟩⟩
            · exact ⟨-6, n, _, _, _, _, rM0_no hn hs h46 h104 h108 h115 hle, Or.inl ⟨rfl, fun r => by rw [cb_open hp hc, es, if_pos rfl]; exact rC0_no hs h46 h104 h108 h115 hle⟩⟩
  · by_cases hd : 48 ≤ s ∧ s ≤ 53
    · obtain ⟨x, hx, rfl⟩ : ∃ x, x < 6 ∧ s = 48 + x := ⟨s - 48, by omega, by omega⟩
      have e1 : sg (pos n + 1) = nI (48 + x) := by rw [← es, hpos]; rfl
      exact ⟨2, n, _, _, _, _, rM1_ok hn hx, Or.inr ⟨2, 115, 2, pos, rfl, hD.congr same_lt upd_lt same_lt same_lt, by rw [hpos]; rfl, Or.inr (Or.inr (Or.inl ⟨rfl, rfl, rfl, k1, x, hx, e1, upd_at⟩)), fun r => by rw [cb_open hp hc, es, if_neg (by decide), ← nI_1 p]; exact rC1_ok (by omega) hd⟩⟩
    · exact ⟨-6, n, _, _, _, _, rM1_no hs hd, Or.inl ⟨rfl, fun r => by rw [cb_open hp hc, es, if_neg (by decide)]; exact rC1_no hs hd⟩⟩
  · by_cases hd : 48 ≤ s ∧ s ≤ 53
    · obtain ⟨x, hx, rfl⟩ : ∃ x, x < 6 ∧ s = 48 + x := ⟨s - 48, by omega, by omega⟩
      have e1 : sg (pos n + 2) = nI (48 + x) := by rw [← es, hpos]; rfl
      exact ⟨3, n, _, _, _, _, rM2_ok hn hx, Or.inr ⟨3, 115, 3, pos, rfl, hD.congr same_lt same_lt upd_lt same_lt, by rw [hpos]; rfl, Or.inr (Or.inr (Or.inr (Or.inl ⟨rfl, rfl, rfl, k1, i, x, hi, hx, k2, e1, k3, upd_at⟩))), fun r => by rw [cb_open hp hc, es, if_neg (by decide), ← nI_1 p]; exact rC2_ok (by omega) hd⟩⟩
    · exact ⟨-6, n, _, _, _, _, rM2_no hs hd, Or.inl ⟨rfl, fun r => by rw [cb_open hp hc, es, if_neg (by decide)]; exact rC2_no hs hd⟩⟩
  · by_cases hd : 49 ≤ s ∧ s ≤ 57
    · obtain ⟨x, hx1, hx9, rfl⟩ : ∃ x, 1 ≤ x ∧ x ≤ 9 ∧ s = 48 + x := ⟨s - 48, by omega, by omega, by omega⟩
      have e1 : sg (pos n + 3) = nI (48 + x) := by rw [← es, hpos]; rfl
      have hD4 : DONE sg n pos (upd ac n 0) on ot (upd mu n (nI x)) := hD.congr upd_lt same_lt same_lt upd_lt
      obtain ⟨pos', hD5, e5⟩ := hD4.push (L := 4) (by decide) (Or.inl ⟨k1, rfl, upd_at, i, j, x, hi, hj, hx1, hx9, k2, k3, e1, k4, k5, upd_at⟩)
      exact ⟨0, n + 1, _, _, _, _, rM3_ok hn hx1 hx9, Or.inr ⟨0, 115, 0, pos', rfl, hD5, by rw [e5, hpos]; rfl, Or.inl ⟨rfl, rfl⟩, fun r => by rw [cb_open hp hc, es, if_neg (by decide), ← nI_1 p]; exact rC3_ok (by omega) hd⟩⟩
    · exact ⟨-6, n, _, _, _, _, rM3_no hn hs hd, Or.inl ⟨rfl, fun r => by rw [cb_open hp hc, es, if_neg (by decide)]; exact rC3_no hs hd⟩⟩
  · by_cases hd : 48 ≤ s ∧ s ≤ 53
    · obtain ⟨x, hx, rfl⟩ : ∃ x, x < 6 ∧ s = 48 + x := ⟨s - 48, by omega, by omega⟩
      have e1 : sg (pos n + 1) = nI (48 + x) := by rw [← es, hpos]; rfl
      have hD4 : DONE sg n pos (upd ac n 1) (upd on n (nI x)) ot mu := hD.congr upd_lt upd_lt same_lt same_lt
      obtain ⟨pos', hD5, e5⟩ := hD4.push (L := 2) (by decide) (Or.inr (Or.inl ⟨k1, rfl, upd_at, x, hx, e1, upd_at⟩))
      exact ⟨0, n + 1, _, _, _, _, rM4_ok hn hx, Or.inr ⟨0, 108, 0, pos', rfl, hD5, by rw [e5, hpos]; rfl, Or.inl ⟨rfl, rfl⟩, fun r => by rw [cb_open hp hc, es, if_neg (by decide), ← nI_1 p]; exact rC4_ok (by omega) hd⟩⟩
    · exact ⟨-6, n, _, _, _, _, rM4_no hs hd, Or.inl ⟨rfl, fun r => by rw [cb_open hp hc, es, if_neg (by decide)]; exact rC4_no hs hd⟩⟩
  · by_cases hd : 48 ≤ s ∧ s ≤ 53
    · obtain ⟨x, hx, rfl⟩ : ∃ x, x < 6 ∧ s = 48 + x := ⟨s - 48, by omega, by omega⟩
      have e1 : sg (pos n + 1) = nI (48 + x) := by rw [← es, hpos]; rfl
      have hD4 : DONE sg n pos (upd ac n 2) (upd on n (nI x)) ot mu := hD.congr upd_lt upd_lt same_lt same_lt
      obtain ⟨pos', hD5, e5⟩ := hD4.push (L := 2) (by decide) (Or.inr (Or.inr (Or.inl ⟨k1, rfl, upd_at, x, hx, e1, upd_at⟩)))
      exact ⟨0, n + 1, _, _, _, _, rM5_ok hn hx, Or.inr ⟨0, 104, 0, pos', rfl, hD5, by rw [e5, hpos]; rfl, Or.inl ⟨rfl, rfl⟩, fun r => by rw [cb_open hp hc, es, if_neg (by decide), ← nI_1 p]; exact rC5_ok (by omega) hd⟩⟩
    · exact ⟨-6, n, _, _, _, _, rM5_no hs hd, Or.inl ⟨rfl, fun r => by rw [cb_open hp hc, es, if_neg (by decide)]; exact rC5_no hs hd⟩⟩
  · by_cases hd : 48 ≤ s ∧ s ≤ 53
    · obtain ⟨x, hx, rfl⟩ : ∃ x, x < 6 ∧ s = 48 + x := ⟨s - 48, by omega, by omega⟩
      have e1 : sg (pos n + 1) = nI (48 + x) := by rw [← es, hpos]; rfl
      exact ⟨7, n, _, _, _, _, rM6_ok hn hx, Or.inr ⟨7, nI (65 + l), 2, pos, rfl, hD.congr same_lt same_lt upd_lt same_lt, by rw [hpos]; rfl, Or.inr (Or.inr (Or.inr (Or.inr (Or.inr (Or.inr (Or.inr ⟨rfl, rfl, l, x, hl, hx, rfl, k1, e1, k2, upd_at⟩)))))), fun r => by rw [cb_open hp hc, es, if_neg (by decide), ← nI_1 p]; exact rC6_ok hl (by omega) hd⟩⟩
    · exact ⟨-6, n, _, _, _, _, rM6_no hs hd, Or.inl ⟨rfl, fun r => by rw [cb_open hp hc, es, if_neg (by decide)]; exact rC6_no hl hs hd⟩⟩
  · by_cases hd : 49 ≤ s ∧ s ≤ 57
    · obtain ⟨x, hx1, hx9, rfl⟩ : ∃ x, 1 ≤ x ∧ x ≤ 9 ∧ s = 48 + x := ⟨s - 48, by omega, by omega, by omega⟩
      have e1 : sg (pos n + 2) = nI (48 + x) := by rw [← es, hpos]; rfl
      have hD4 : DONE sg n pos (upd ac n 3) on ot (upd mu n (nI x)) := hD.congr upd_lt same_lt same_lt upd_lt
      obtain ⟨pos', hD5, e5⟩ := hD4.push (L := 3) (by decide) (Or.inr (Or.inr (Or.inr (Or.inl ⟨l, i, x, hl, hi, hx1, hx9, k1, rfl, upd_at, k2, e1, k3, k4, upd_at⟩))))
      exact ⟨0, n + 1, _, _, _, _, rM7_ok hn hx1 hx9, Or.inr ⟨0, nI (65 + l), 0, pos', rfl, hD5, by rw [e5, hpos]; rfl, Or.inl ⟨rfl, rfl⟩, fun r => by rw [cb_open hp hc, es, if_neg (by decide), ← nI_1 p]; exact rC7_ok hl (by omega) hd⟩⟩
    · exact ⟨-6, n, _, _, _, _, rM7_no hn hs hd, Or.inl ⟨rfl, fun r => by rw [cb_open hp hc, es, if_neg (by decide)]; exact rC7_no hl hs hd⟩⟩
theorem ST_q {sg : Nat → Int32} {P q : Nat} {hd of a b : Int32} (h : ST sg P q hd of a b) : q ≤ 7 ∧ (of = 0 ↔ q = 0) := by
  rcases h with ⟨rfl, rfl⟩ | ⟨rfl, -, rfl, -⟩ | ⟨rfl, -, rfl, -⟩ | ⟨rfl, -, rfl, -⟩ | ⟨rfl, -, rfl, -⟩ | ⟨rfl, -, rfl, -⟩ | ⟨rfl, rfl, -⟩ | ⟨rfl, rfl, -⟩ <;> exact ⟨by decide, by decide⟩
theorem text_all {cnt : Nat} {sg : Nat → Int32} (hc : cnt ≤ 60) (hs : ∀ k, k < cnt → ∃ s, s < 127 ∧ sg k = nI s) : ∀ (k p q n : Nat) (pos : Nat → Nat) (ac on ot mu : Nat → Int32) (hd of : Int32), p + k = cnt → DONE sg n pos ac on ot mu → p = pos n + offq q → ST sg (pos n) q hd of (on n) (ot n) → ∀ m, k < m →
    ∃ (x : Int32) (n' : Nat) (ac' on' ot' mu' : Nat → Int32), it3 (bd_D_faultPlace_6 (nI cnt) sg) m hd of (nI p) = some x ∧ it7 (bd_M_fault_9 (nI cnt) sg) m (nI q) (nI p) (nI n) ac on ot mu = some (x, nI n', ac', on', ot', mu') ∧ ((x = -6 ∧ ∃ pos', DONE sg n' pos' ac' on' ot' mu' ∧ cnt = pos' n') ∨ ∃ y, y ≤ 60 ∧ x = nI y) := by
  intro k
  induction k with
  | zero =>
    intro p q n pos ac on ot mu hd of hk hD hpos hS m hm
    obtain ⟨m, rfl⟩ : ∃ j, m = j + 1 := ⟨m - 1, by omega⟩
    have hpc : p = cnt := by omega
    subst hpc
    obtain ⟨hq7, hof⟩ := ST_q hS
    have e1 : it3 (bd_D_faultPlace_6 (nI p) sg) (m + 1) hd of (nI p) = if of = 0 then some (-6) else some (nI p) := by
      show bd_D_faultPlace_6 (nI p) sg _ hd of (nI p) = _
      unfold bd_D_faultPlace_6
      rw [if_pos (nI_le (Nat.le_refl p) (by omega))]
      rfl
    have e2 : it7 (bd_M_fault_9 (nI p) sg) (m + 1) (nI q) (nI p) (nI n) ac on ot mu = if nI q = 0 then some ((-6), nI n, ac, on, ot, mu) else some (nI p, nI n, ac, on, ot, mu) := by
      show bd_M_fault_9 (nI p) sg _ (nI q) (nI p) (nI n) ac on ot mu = _
      unfold bd_M_fault_9
      rw [if_pos (nI_le (Nat.le_refl p) (by omega))]
    by_cases z : q = 0
    · refine ⟨-6, n, ac, on, ot, mu, by rw [e1, if_pos (hof.mpr z)], by rw [e2, z, if_pos nI_0], Or.inl ⟨rfl, pos, hD, ?_⟩⟩
      rw [z] at hpos
      exact hpos
    · exact ⟨nI p, n, ac, on, ot, mu, by rw [e1, if_neg (fun y => z (hof.mp y))], by rw [e2, if_neg (show ¬ nI q = 0 from nI_ne0 (by omega) (by omega))], Or.inr ⟨p, hc, rfl⟩⟩
  | succ k ih =>
    intro p q n pos ac on ot mu hd of hk hD hpos hS m hm
    obtain ⟨m, rfl⟩ : ∃ j, m = j + 1 := ⟨m - 1, by omega⟩
    have hp : p < cnt := by omega
    obtain ⟨dv, n', ac', on', ot', mu', hM, hcase⟩ := text_step hc hp (hs p hp) hD hpos hS
    have e2 : it7 (bd_M_fault_9 (nI cnt) sg) (m + 1) (nI q) (nI p) (nI n) ac on ot mu = if 0 ≤ dv then it7 (bd_M_fault_9 (nI cnt) sg) m dv (nI (p + 1)) (nI n') ac' on' ot' mu' else some (nI p, nI n', ac', on', ot', mu') := by
      show bd_M_fault_9 (nI cnt) sg (it7 (bd_M_fault_9 (nI cnt) sg) m) (nI q) (nI p) (nI n) ac on ot mu = _
      unfold bd_M_fault_9
      rw [if_neg (nI_ge hp (by omega)), kx_nI (by omega) (by decide), nI_clamp (by omega), bind_some' hM, nI_1]
    rcases hcase with ⟨rfl, hC⟩ | ⟨q', hd', of', pos', rfl, hD', hpos', hS', hC⟩
    · refine ⟨nI p, n', ac', on', ot', mu', ?_, by rw [e2, if_neg (by decide)], Or.inr ⟨p, by omega, rfl⟩⟩
      exact hC _
    · have hq' := (ST_q hS').1
      obtain ⟨x, n'', a1, a2, a3, a4, r1, r2, r3⟩ := ih (p + 1) q' n' pos' ac' on' ot' mu' hd' of' (by omega) hD' hpos' hS' m (by omega)
      refine ⟨x, n'', a1, a2, a3, a4, ?_, by rw [e2, if_pos (nI_pos' (by omega)), r2], r3⟩
      rw [← r1]
      exact hC _
/-- the fault of a text -/
theorem fault_CM {cnt : Nat} {sg ac on ot mu : Nat → Int32} {ac0 : Int32} (hc : cnt ≤ 60) (hs : ∀ k, k < cnt → ∃ s, s < 127 ∧ sg k = nI s) : ∃ (x : Int32) (n : Nat) (ac' on' ot' mu' : Nat → Int32), f_D_faultPlace (nI cnt) sg = some x ∧ f_M_fault (nI cnt) ac0 sg ac on ot mu = some (x, nI n, ac', on', ot', mu') ∧ ((x = -6 ∧ ∃ pos, DONE sg n pos ac' on' ot' mu' ∧ cnt = pos n) ∨ ∃ y, y ≤ 60 ∧ x = nI y) := by
  obtain ⟨x, n, a1, a2, a3, a4, h1, h2, h3⟩ := text_all hc hs cnt 0 0 0 (fun _ => 0) ac on ot mu 0 0 (by omega) ⟨rfl, fun e he => absurd he (by omega)⟩ rfl (Or.inl ⟨rfl, rfl⟩) 1100 (by omega)
  exact ⟨x, n, a1, a2, a3, a4, h1, h2, h3⟩
