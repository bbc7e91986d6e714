/-! cases, leaves, forget, wipe, fault: class and reference -/
theorem op_cases {sc : Int32} {s1 s2 s3 : Nat → Int32} (p1 : Int32) (h : SIG sc s1 s2 s3) : ∃ r, f_C_cases p1 sc s1 s2 s3 = some r ∧ f_M_cases p1 sc s1 s2 s3 = some r := by
  obtain ⟨⟨n, hn, rfl⟩, -, -, -⟩ := h
  unfold f_C_cases f_M_cases
  by_cases hp : p1 = -1
  · subst hp
    rw [if_pos rfl]
    have key : ∀ j i c : Nat, i + j = 25 → c ≤ i → ∀ f, j < f → ∃ r, it2 (bd_S_fittingCases_4 (nI n) s1 s2 s3) f (nI c) (nI i) = some r ∧ it2 (bd_M_cases_4 (-1) (nI n) s1 s2 s3) f (nI c) (nI i) = some r := by
      intro j
      induction j with
      | zero =>
        intro i c hi hc f hf
        obtain ⟨f, rfl⟩ : ∃ g, f = g + 1 := ⟨f - 1, by omega⟩
        refine ⟨nI c, ?_, ?_⟩
        · show bd_S_fittingCases_4 (nI n) s1 s2 s3 (it2 (bd_S_fittingCases_4 (nI n) s1 s2 s3) f) (nI c) (nI i) = _
          unfold bd_S_fittingCases_4
          rw [if_pos (show (24 : Int32) < nI i from nI_lt (a := 24) (by omega) (by omega))]
        · show bd_M_cases_4 (-1) (nI n) s1 s2 s3 (it2 (bd_M_cases_4 (-1) (nI n) s1 s2 s3) f) (nI c) (nI i) = _
          unfold bd_M_cases_4
          rw [if_pos (show (25 : Int32) ≤ nI i from nI_le (a := 25) (by omega) (by omega)), if_pos rfl]
      | succ j ih =>
        intro i c hi hc f hf
        obtain ⟨f, rfl⟩ : ∃ g, f = g + 1 := ⟨f - 1, by omega⟩
        show ∃ r, bd_S_fittingCases_4 (nI n) s1 s2 s3 (it2 (bd_S_fittingCases_4 (nI n) s1 s2 s3) f) (nI c) (nI i) = some r ∧ bd_M_cases_4 (-1) (nI n) s1 s2 s3 (it2 (bd_M_cases_4 (-1) (nI n) s1 s2 s3) f) (nI c) (nI i) = some r
        unfold bd_S_fittingCases_4 bd_M_cases_4
        rw [if_neg (show ¬ (24 : Int32) < nI i from nI_nlt (b := i) (a := 24) (by omega) (by decide)), if_neg (show ¬ (25 : Int32) ≤ nI i from nI_ge (b := 25) (by omega) (by decide)), bind_some' (fitC hn), bind_some' (fitM hn), nI_1, nI_1]
        by_cases z : fitb (nI i) s1 s2 s3 n = true
        · rw [if_pos z, n10, n10, if_neg (nI_ne_m1 (by omega))]
          exact ih (i + 1) (c + 1) (by omega) (by omega) f (by omega)
        · rw [if_neg z, y00, y00]
          exact ih (i + 1) c (by omega) (by omega) f (by omega)
    obtain ⟨r, h1, h2⟩ := key 25 0 0 (by omega) (by omega) 1100 (by omega)
    exact ⟨r, by rw [show f_S_fittingCases (nI n) s1 s2 s3 = some r from h1]; rfl, h2⟩
  · rw [if_neg hp]
    have key : ∀ j i : Nat, i + j = 25 → ∀ c f, j < f → ∃ r, it2 (bd_S_fittingCase_4 p1 (nI n) s1 s2 s3) f c (nI i) = some r ∧ it2 (bd_M_cases_4 p1 (nI n) s1 s2 s3) f c (nI i) = some r := by
      intro j
      induction j with
      | zero =>
        intro i hi c f hf
        obtain ⟨f, rfl⟩ : ∃ g, f = g + 1 := ⟨f - 1, by omega⟩
        refine ⟨-6, ?_, ?_⟩
        · show bd_S_fittingCase_4 p1 (nI n) s1 s2 s3 (it2 (bd_S_fittingCase_4 p1 (nI n) s1 s2 s3) f) c (nI i) = _
          unfold bd_S_fittingCase_4
          rw [if_pos (show (24 : Int32) < nI i from nI_lt (a := 24) (by omega) (by omega))]
        · show bd_M_cases_4 p1 (nI n) s1 s2 s3 (it2 (bd_M_cases_4 p1 (nI n) s1 s2 s3) f) c (nI i) = _
          unfold bd_M_cases_4
          rw [if_pos (show (25 : Int32) ≤ nI i from nI_le (a := 25) (by omega) (by omega)), if_neg hp]
      | succ j ih =>
        intro i hi c f hf
        obtain ⟨f, rfl⟩ : ∃ g, f = g + 1 := ⟨f - 1, by omega⟩
        show ∃ r, bd_S_fittingCase_4 p1 (nI n) s1 s2 s3 (it2 (bd_S_fittingCase_4 p1 (nI n) s1 s2 s3) f) c (nI i) = some r ∧ bd_M_cases_4 p1 (nI n) s1 s2 s3 (it2 (bd_M_cases_4 p1 (nI n) s1 s2 s3) f) c (nI i) = some r
        unfold bd_S_fittingCase_4 bd_M_cases_4
        rw [if_neg (show ¬ (24 : Int32) < nI i from nI_nlt (b := i) (a := 24) (by omega) (by decide)), if_neg (show ¬ (25 : Int32) ≤ nI i from nI_ge (b := 25) (by omega) (by decide)), bind_some' (fitC hn), bind_some' (fitM hn), nI_1]
        by_cases z : fitb (nI i) s1 s2 s3 n = true
        · rw [if_pos z, n10, n10]
          by_cases y : c = p1
          · rw [if_pos y, if_pos y]; exact ⟨_, rfl, rfl⟩
          · rw [if_neg y, if_neg y]
            exact ih (i + 1) (by omega) (c + 1) f (by omega)
        · rw [if_neg z, y00, y00]
          exact ih (i + 1) (by omega) c f (by omega)
    obtain ⟨r, h1, h2⟩ := key 25 0 (by omega) 0 1100 (by omega)
    exact ⟨r, by rw [show f_S_fittingCase p1 (nI n) s1 s2 s3 = some r from h1]; rfl, h2⟩
def m3 (a b c : Nat) : Nat := if a < (if b < c then c else b) then (if b < c then c else b) else a
theorem nI_le_iff {a b : Nat} (ha : a < 2 ^ 31) (hb : b < 2 ^ 31) : nI a ≤ nI b ↔ a ≤ b := by
  constructor
  · intro h
    by_cases q : a ≤ b
    · exact q
    · exact absurd h (nI_ge (by omega) ha)
  · intro h; exact nI_le h hb
theorem nI_lt_iff {a b : Nat} (ha : a < 2 ^ 31) (hb : b < 2 ^ 31) : nI a < nI b ↔ a < b := by
  constructor
  · intro h
    by_cases q : a < b
    · exact q
    · exact absurd h (nI_nlt (by omega) ha)
  · intro h; exact nI_lt h hb
theorem add0 (x : Int32) : x + 0 = x := Int32.add_zero x
theorem leaves_loop {n : Nat} {s1 s2 s3 : Nat → Int32} (hn : n ≤ 8) (p q : Int32) : ∀ j i a b c : Nat, i + j = 25 → a + b + c ≤ i → ∀ (v : Nat → Int32), v 0 = nI a → v 1 = nI b → v 2 = nI c → ∀ f g, j < f → j < g → ∃ (r : Int32) (w : Nat → Int32), it4 (bd_S_mostLeft_11 p q (nI n) s1 s2 s3) f (nI a) (nI b) (nI c) (nI i) = some r ∧ it3 (bd_M_leaves_39 p q (nI n) s1 s2 s3) g (nI (m3 a b c)) (nI i) v = some (r, w) := by
  intro j
  induction j with
  | zero =>
    intro i a b c hi hs v v0 v1 v2 f g hf hg
    obtain ⟨f, rfl⟩ : ∃ x, f = x + 1 := ⟨f - 1, by omega⟩
    obtain ⟨g, rfl⟩ : ∃ x, g = x + 1 := ⟨g - 1, by omega⟩
    refine ⟨nI (m3 a b c), v, ?_, ?_⟩
    · show bd_S_mostLeft_11 p q (nI n) s1 s2 s3 (it4 (bd_S_mostLeft_11 p q (nI n) s1 s2 s3) f) (nI a) (nI b) (nI c) (nI i) = _
      unfold bd_S_mostLeft_11
      rw [if_pos (show (24 : Int32) < nI i from nI_lt (a := 24) (by omega) (by omega))]
      unfold m3
      by_cases z : b < c
      · rw [if_pos (nI_lt z (by omega)), if_pos z]
        by_cases y : a < c
        · rw [if_pos (nI_lt y (by omega)), if_pos y]
        · rw [if_neg (nI_nlt (by omega) (by omega)), if_neg y]
      · rw [if_neg (nI_nlt (by omega) (by omega)), if_neg z]
        by_cases y : a < b
        · rw [if_pos (nI_lt y (by omega)), if_pos y]
        · rw [if_neg (nI_nlt (by omega) (by omega)), if_neg y]
    · show bd_M_leaves_39 p q (nI n) s1 s2 s3 (it3 (bd_M_leaves_39 p q (nI n) s1 s2 s3) g) (nI (m3 a b c)) (nI i) v = _
      unfold bd_M_leaves_39
      rw [if_pos (show (25 : Int32) ≤ nI i from nI_le (a := 25) (by omega) (by omega))]
  | succ j ih =>
    intro i a b c hi hs v v0 v1 v2 f g hf hg
    obtain ⟨f, rfl⟩ : ∃ x, f = x + 1 := ⟨f - 1, by omega⟩
    obtain ⟨g, rfl⟩ : ∃ x, g = x + 1 := ⟨g - 1, by omega⟩
    show ∃ (r : Int32) (w : Nat → Int32), bd_S_mostLeft_11 p q (nI n) s1 s2 s3 (it4 (bd_S_mostLeft_11 p q (nI n) s1 s2 s3) f) (nI a) (nI b) (nI c) (nI i) = some r ∧ bd_M_leaves_39 p q (nI n) s1 s2 s3 (it3 (bd_M_leaves_39 p q (nI n) s1 s2 s3) g) (nI (m3 a b c)) (nI i) v = some (r, w)
    generalize hF : it4 (bd_S_mostLeft_11 p q (nI n) s1 s2 s3) f = F
    generalize hG : it3 (bd_M_leaves_39 p q (nI n) s1 s2 s3) g = G
    have hm : m3 a b c ≤ a + b + c := by unfold m3; repeat' split
                                         all_goals omega
    have ha : a ≤ m3 a b c := by unfold m3; repeat' split
                                 all_goals omega
    have hb : b ≤ m3 a b c := by unfold m3; repeat' split
                                 all_goals omega
    have hc : c ≤ m3 a b c := by unfold m3; repeat' split
                                 all_goals omega
    obtain ⟨k, hk, hkv, d0, hd0, hdm⟩ : ∃ k, k < 3 ∧ hv (nI i) p q = nI k ∧ ∃ d, v k = nI d ∧ d ≤ m3 a b c := by
      rcases (heavier_some (nI i) p q).2 with z | z | z
      · exact ⟨0, by decide, z, a, v0, ha⟩
      · exact ⟨1, by decide, z, b, v1, hb⟩
      · exact ⟨2, by decide, z, c, v2, hc⟩
    have hM : ∀ y : Nat, y ≤ 1 → ∀ d, v k = nI d → d + y ≤ 25 → jn_M_leaves_77 G p q (nI (m3 a b c)) (nI i) (nI k) (nI k) (v k) (nI y) (nI n) s1 s2 s3 v = G (nI (if d + y ≤ m3 a b c then m3 a b c else d + y)) (nI (i + 1)) (upd v k (nI (d + y))) := by
      intro y hy d hd hdy
      unfold jn_M_leaves_77
      rw [kx_nI hk (by decide), kx_nI hk (by decide), nI_clamp (by omega), hd, nI_add, upd_at, nI_1]
      by_cases z : d + y ≤ m3 a b c
      · rw [if_pos (nI_le z (by omega)), if_pos z]
      · rw [if_neg (nI_ge (by omega) (by omega)), if_neg z, kx_nI hk (by decide)]
    unfold bd_S_mostLeft_11 bd_M_leaves_39
    rw [if_neg (show ¬ (24 : Int32) < nI i from nI_nlt (b := i) (a := 24) (by omega) (by decide)), if_neg (show ¬ (25 : Int32) ≤ nI i from nI_ge (b := 25) (by omega) (by decide)), bind_some' (fitC hn), bind_some' (comes_eq _ _ _), hkv, kx_nI hk (by decide), bind_some' (fitM hn), nI_clamp (show k < 2 ^ 31 by omega), nI_1]
    by_cases z : fitb (nI i) s1 s2 s3 n = true
    · rw [if_pos z, n10, n10, bind_some' (heavier_some _ _ _).1, hkv, show (1 : Int32) = nI 1 from rfl]
      have hk3 : k = 0 ∨ k = 1 ∨ k = 2 := by omega
      rcases hk3 with rfl | rfl | rfl
      · rw [if_pos (show nI 0 = 0 from rfl), hM 1 (by decide) a v0 (by omega)]
        have e1 : jn_S_mostLeft_47 F p q (nI b) (nI c) (nI i) (nI 0) (nI a) (nI 1) (nI n) s1 s2 s3 = F (nI (a + 1)) (nI b) (nI c) (nI (i + 1)) := by
          unfold jn_S_mostLeft_47 jn_S_mostLeft_62
          rw [if_neg (by decide), if_neg (by decide), add0, add0, nI_add, nI_1]
        rw [e1]
        have e2 : (if a + 1 ≤ m3 a b c then m3 a b c else a + 1) = m3 (a + 1) b c := by
          unfold m3
          repeat' split
          all_goals omega
        rw [e2]
        subst hF hG
        exact ih (i + 1) (a + 1) b c (by omega) (by omega) _ (upd_at) (by rw [upd_ne (by decide)]; exact v1) (by rw [upd_ne (by decide)]; exact v2) f g (by omega) (by omega)
      · rw [if_neg (show ¬ nI 1 = 0 by decide), hM 1 (by decide) b v1 (by omega)]
        have e1 : jn_S_mostLeft_47 F p q (nI b) (nI c) (nI i) (nI 1) (nI a) 0 (nI n) s1 s2 s3 = F (nI a) (nI (b + 1)) (nI c) (nI (i + 1)) := by
          unfold jn_S_mostLeft_47 jn_S_mostLeft_62
          rw [if_pos (show nI 1 = 1 from rfl), if_neg (by decide), add0, add0, nI_1, nI_1]
        rw [e1]
        have e2 : (if b + 1 ≤ m3 a b c then m3 a b c else b + 1) = m3 a (b + 1) c := by
          unfold m3
          repeat' split
          all_goals omega
        rw [e2]
        subst hF hG
        exact ih (i + 1) a (b + 1) c (by omega) (by omega) _ (by rw [upd_ne (by decide)]; exact v0) (upd_at) (by rw [upd_ne (by decide)]; exact v2) f g (by omega) (by omega)
      · rw [if_neg (show ¬ nI 2 = 0 by decide), hM 1 (by decide) c v2 (by omega)]
        have e1 : jn_S_mostLeft_47 F p q (nI b) (nI c) (nI i) (nI 2) (nI a) 0 (nI n) s1 s2 s3 = F (nI a) (nI b) (nI (c + 1)) (nI (i + 1)) := by
          unfold jn_S_mostLeft_47 jn_S_mostLeft_62
          rw [if_neg (show ¬ nI 2 = 1 by decide), if_pos (show nI 2 = 2 from rfl), add0, add0, nI_1, nI_1]
        rw [e1]
        have e2 : (if c + 1 ≤ m3 a b c then m3 a b c else c + 1) = m3 a b (c + 1) := by
          unfold m3
          repeat' split
          all_goals omega
        rw [e2]
        subst hF hG
        exact ih (i + 1) a b (c + 1) (by omega) (by omega) _ (by rw [upd_ne (by decide)]; exact v0) (by rw [upd_ne (by decide)]; exact v1) (upd_at) f g (by omega) (by omega)
    · rw [if_neg z, y00, y00, show (0 : Int32) = nI 0 from rfl, hM 0 (by decide) d0 hd0 (by omega), if_pos (show d0 + 0 ≤ m3 a b c from hdm), fa_upd_same (show v k = nI (d0 + 0) from hd0)]
      subst hF hG
      exact ih (i + 1) a b c (by omega) (by omega) v v0 v1 v2 f g (by omega) (by omega)
theorem op_leaves {sc : Int32} {s1 s2 s3 : Nat → Int32} (p1 p2 : Int32) (bi : Nat → Int32) (h : SIG sc s1 s2 s3) : ∃ r w, f_C_leaves p1 p2 sc s1 s2 s3 = some r ∧ f_M_leaves p1 p2 sc s1 s2 s3 bi = some (r, w) := by
  obtain ⟨⟨n, hn, rfl⟩, -, -, -⟩ := h
  obtain ⟨y, hy, wC, wM⟩ := weighing_eq p1 p2
  unfold f_C_leaves f_M_leaves
  rw [bind_some' wC, bind_some' wM]
  rcases hy with rfl | rfl
  · rw [y00, y00]; exact ⟨_, _, rfl, rfl⟩
  · rw [n10, n10]
    obtain ⟨r, w, h1, h2⟩ := leaves_loop (n := n) (s1 := s1) (s2 := s2) (s3 := s3) hn p1 p2 25 0 0 0 0 (by omega) (by omega) (upd (upd (upd bi 0 0) 1 0) 2 0) rfl rfl rfl 1100 1100 (by omega) (by omega)
    refine ⟨r, w, ?_, ?_⟩
    · rw [show f_S_mostLeft p1 p2 (nI n) s1 s2 s3 = some r from h1]; rfl
    · exact h2
theorem op_forget (sc : Int32) : f_C_forget sc = some (sc, 0) ∧ f_M_forget sc = some (sc, 0) := ⟨rfl, rfl⟩
theorem op_wipe (pn : Int32) : f_C_wipe pn = some (pn, 0) ∧ f_M_wipe pn = some (pn, 0) := ⟨rfl, rfl⟩
