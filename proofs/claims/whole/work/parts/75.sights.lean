/-! told, weigh, cases: class and reference -/
theorem n10 {α : Type} (a b : α) : (if (1 : Int32) = 0 then a else b) = b := if_neg (by decide)
theorem y00 {α : Type} (a b : α) : (if (0 : Int32) = 0 then a else b) = a := if_pos rfl
set_option maxHeartbeats 1000000 in
theorem op_told {o pc rd hid sc pn : Int32} {ey co th rw_ : Nat → Int32} (p1 : Int32) (hT : TT o pc rd ey co th rw_ hid) : ∃ r, f_C_told p1 pn o pc rd ey co th sc = some r ∧ f_M_told p1 hid rd sc pn rw_ ey co th = some r := by
  obtain ⟨⟨a, b, c, d, e, f, hp, rfl, rfl⟩, hpea, -⟩ := hT
  obtain ⟨r, hrC, hrM⟩ := trow hp
  have i1 := inL_eq p1 (lo := 10) (hi := 39) (by decide) (by decide)
  have hpn : f_T_peaCupOrNone pc = some hid := by
    unfold f_T_peaCupOrNone
    rcases hpea with ⟨rfl, rfl⟩ | ⟨k, hk, rfl, rfl⟩
    · rfl
    · rw [if_neg (nI_ne_m1 (by omega))]
  unfold f_C_told f_M_told
  have big : ∀ n : Nat, 5 ≤ n → n < 2 ^ 31 → ¬ nI n = 0 ∧ ¬ nI n = 1 ∧ ¬ nI n = 2 ∧ ¬ nI n = 3 ∧ ¬ nI n = 4 := by
    intro n h5 hn
    refine ⟨fun z => ?_, fun z => ?_, fun z => ?_, fun z => ?_, fun z => ?_⟩
    · have := (nI_eq (b := 0) hn (by decide)).mp z; omega
    · have := (nI_eq (b := 1) hn (by decide)).mp z; omega
    · have := (nI_eq (b := 2) hn (by decide)).mp z; omega
    · have := (nI_eq (b := 3) hn (by decide)).mp z; omega
    · have := (nI_eq (b := 4) hn (by decide)).mp z; omega
  have e10 : ∀ n : Nat, n < 2 ^ 31 → nI n - nI n / 10 * 10 = nI (n % 10) := fun n hn => pk_rem (d := 10) hn (by decide) (by decide)
  have d10 : ∀ n : Nat, n < 2 ^ 31 → nI n / 10 = nI (n / 10) := fun n hn => pk_div (d := 10) hn (by decide) (by decide)
  rcases within_cases p1 (lo := 10) (hi := 39) (by decide) (by decide) with ⟨n, h10, h39, rfl, w⟩ | w
  · rw [w] at i1
    obtain ⟨n0, n1, n2, n3, n4⟩ := big n (by omega) (by omega)
    rw [bind_some' (show f_M_in (Int32.toInt64 (nI n)) 10 39 = some 1 from i1), if_neg (show ¬ (1 : Int32) = 0 by decide), if_neg n0, if_neg n1, if_neg n2, if_neg n3, if_neg n4]
    unfold f_C_toldOfWatcher f_M_toldOfWatcher
    rw [if_neg (show ¬ nI n < 10 from nI_nlt (b := 10) h10 (by omega)), e10 n (by omega), d10 n (by omega)]
    rcases watcher_cases (nI (n % 10)) with ⟨j, hj, ej, h1, h2⟩ | ⟨h1, h2⟩
    · rw [bind_some' h1, bind_some' h2, n10, n10, ej]
      have e1 : f_T_eyesOf (nI j) ey = some (ey j) := by
        unfold f_T_eyesOf
        rw [bind_some' (isWatcher_nI hj), if_neg (by decide), kx_nI hj (by decide), nI_clamp (by omega)]
      have e3 : f_T_thinksOf (nI j) th = some (th j) := by
        unfold f_T_thinksOf
        rw [bind_some' (isWatcher_nI hj), if_neg (by decide), kx_nI hj (by decide), nI_clamp (by omega)]
      rw [kx_nI hj (by decide), kx_nI hj (by decide), kx_nI hj (by decide), nI_clamp (by omega), bind_some' e1, bind_some' (coinOf_nI hj), bind_some' e3]
      have hq : n / 10 = 1 ∨ n / 10 = 2 ∨ n / 10 = 3 := by omega
      rcases hq with q | q | q
      · rw [q, if_pos (show nI 1 = 1 from rfl), if_neg (show ¬ (20 : Int32) ≤ nI n from nI_ge (b := 20) (by omega) (by decide))]
        exact ⟨_, rfl, rfl⟩
      · rw [q, if_neg (show ¬ nI 2 = 1 by decide), if_pos (show nI 2 = 2 from rfl), if_pos (show (20 : Int32) ≤ nI n from nI_le (a := 20) (by omega) (by omega)), if_neg (show ¬ (30 : Int32) ≤ nI n from nI_ge (b := 30) (by omega) (by decide))]
        exact ⟨_, rfl, rfl⟩
      · rw [q, if_neg (show ¬ nI 3 = 1 by decide), if_neg (show ¬ nI 3 = 2 by decide), if_pos (show nI 3 = 3 from rfl), if_pos (show (20 : Int32) ≤ nI n from nI_le (a := 20) (by omega) (by omega)), if_pos (show (30 : Int32) ≤ nI n from nI_le (a := 30) (by omega) (by omega))]
        exact ⟨_, rfl, rfl⟩
    · rw [bind_some' h1, bind_some' h2, if_pos rfl, if_pos rfl]
      exact ⟨_, rfl, rfl⟩
  · rw [w] at i1
    rw [bind_some' (show f_M_in (Int32.toInt64 p1) 10 39 = some 0 from i1), if_pos (show (0 : Int32) = 0 from rfl)]
    by_cases c0 : p1 = 0
    · rw [if_pos c0, if_pos c0]; exact ⟨_, rfl, rfl⟩
    · rw [if_neg c0, if_neg c0]
      by_cases c1 : p1 = 1
      · rw [if_pos c1, if_pos c1, bind_some' hrC, bind_some' hrM]; exact ⟨_, rfl, rfl⟩
      · rw [if_neg c1, if_neg c1]
        by_cases c2 : p1 = 2
        · rw [if_pos c2, if_pos c2, bind_some' hpn]; exact ⟨_, rfl, rfl⟩
        · rw [if_neg c2, if_neg c2]
          by_cases c3 : p1 = 3
          · rw [if_pos c3, if_pos c3]; exact ⟨_, rfl, rfl⟩
          · rw [if_neg c3, if_neg c3]
            by_cases c4 : p1 = 4
            · rw [if_pos c4, if_pos c4]; exact ⟨_, rfl, rfl⟩
            · rw [if_neg c4, if_neg c4]
              refine ⟨-2, ?_, rfl⟩
              have h : f_C_toldOfWatcher p1 ey co th = some (-2) := by
                unfold f_C_toldOfWatcher
                by_cases q : p1 < 10
                · rw [if_pos q]
                · rw [if_neg q]
                  have h0 : ¬ p1 < 0 := fun z => q (by
                    rw [fa_lt] at z ⊢
                    have h00 : (0 : Int32).toInt = 0 := by decide
                    have h10 : (10 : Int32).toInt = 10 := by decide
                    omega)
                  obtain ⟨n, hn, rfl⟩ := nI_of h0
                  have hn10 : 10 ≤ n := by
                    by_cases y : n < 10
                    · exact absurd (show nI n < 10 from nI_lt (b := 10) y (by decide)) q
                    · omega
                  have hn40 : 40 ≤ n := by
                    rw [within_nI hn (by decide) (by decide)] at w
                    by_cases y : 10 ≤ n ∧ n ≤ 39
                    · rw [if_pos y] at w; exact absurd (Option.some.inj w) (by decide)
                    · omega
                  rw [e10 n hn, d10 n hn]
                  rcases watcher_cases (nI (n % 10)) with ⟨j, hj, ej, h1, h2⟩ | ⟨h1, h2⟩
                  · have hd : n / 10 ≤ n := Nat.div_le_self _ _
                    rw [bind_some' h1, if_neg (by decide), if_neg (show ¬ nI (n / 10) = 1 from fun z => by have := (nI_eq (b := 1) (by omega) (by decide)).mp z; omega), if_neg (show ¬ nI (n / 10) = 2 from fun z => by have := (nI_eq (b := 2) (by omega) (by decide)).mp z; omega), if_neg (show ¬ nI (n / 10) = 3 from fun z => by have := (nI_eq (b := 3) (by omega) (by decide)).mp z; omega)]
                  · rw [bind_some' h1, if_pos rfl]
              rw [bind_some' h]
set_option maxRecDepth 100000 in
theorem pop_chk : ((List.range 4096).all fun n => decide (f_J_bitCount (nI n) = f_M_ones (nI n)) && (f_M_ones (nI n)).isSome) = true := by decide +kernel
theorem pop_eq {n : Nat} (hn : n < 4096) : ∃ r, f_J_bitCount (nI n) = some r ∧ f_M_ones (nI n) = some r := by
  have h := (Bool.and_eq_true _ _).mp (all_lt pop_chk hn)
  obtain ⟨r, hr⟩ := Option.isSome_iff_exists.mp h.2
  exact ⟨r, by rw [of_decide_eq_true h.1]; exact hr, hr⟩
theorem weighing_eq (p q : Int32) : ∃ y, (y = 0 ∨ y = 1) ∧ f_S_isWeighing p q = some y ∧ f_M_isWeighing p q = some y := by
  have i1 := inL_eq p (lo := 1) (hi := 4095) (by decide) (by decide)
  have i2 := inL_eq q (lo := 1) (hi := 4095) (by decide) (by decide)
  unfold f_S_isWeighing f_M_isWeighing
  rcases within_cases p (lo := 1) (hi := 4095) (by decide) (by decide) with ⟨x, -, hx, rfl, w1⟩ | w1
  · rw [w1] at i1
    rw [bind_some' (show f_C_isWithin (nI x) 1 4095 = some 1 from w1), bind_some' (show f_M_in (Int32.toInt64 (nI x)) 1 4095 = some 1 from i1), n10, n10]
    rcases within_cases q (lo := 1) (hi := 4095) (by decide) (by decide) with ⟨y, -, hy, rfl, w2⟩ | w2
    · rw [w2] at i2
      rw [bind_some' (show f_C_isWithin (nI y) 1 4095 = some 1 from w2), bind_some' (show f_M_in (Int32.toInt64 (nI y)) 1 4095 = some 1 from i2), n10, n10]
      obtain ⟨r1, c1, m1⟩ := pop_eq (n := x) (by omega)
      obtain ⟨r2, c2, m2⟩ := pop_eq (n := y) (by omega)
      by_cases z : nI x &&& nI y = 0
      · rw [if_pos z, if_pos z, bind_some' c1, bind_some' c2, bind_some' m1, bind_some' m2]
        by_cases z2 : r1 = r2
        · rw [if_pos z2]; exact ⟨1, Or.inr rfl, rfl, rfl⟩
        · rw [if_neg z2]; exact ⟨0, Or.inl rfl, rfl, rfl⟩
      · rw [if_neg z, if_neg z]; exact ⟨0, Or.inl rfl, rfl, rfl⟩
    · rw [w2] at i2
      rw [bind_some' (show f_C_isWithin q 1 4095 = some 0 from w2), bind_some' (show f_M_in (Int32.toInt64 q) 1 4095 = some 0 from i2), if_pos rfl, if_pos rfl]
      exact ⟨0, Or.inl rfl, rfl, rfl⟩
  · rw [w1] at i1
    rw [bind_some' (show f_C_isWithin p 1 4095 = some 0 from w1), bind_some' (show f_M_in (Int32.toInt64 p) 1 4095 = some 0 from i1), if_pos rfl, if_pos rfl]
    exact ⟨0, Or.inl rfl, rfl, rfl⟩
/-- the sights: so many, in rows of eight -/
def SIG (sc : Int32) (s1 s2 s3 : Nat → Int32) : Prop := (∃ n, n ≤ 8 ∧ sc = nI n) ∧ Zn 8 s1 ∧ Zn 8 s2 ∧ Zn 8 s3
theorem op_weigh {sc : Int32} {s1 s2 s3 : Nat → Int32} (p1 p2 p3 : Int32) (h : SIG sc s1 s2 s3) : ∃ (r sc' : Int32) (t1 t2 t3 : Nat → Int32), f_C_weigh p1 p2 p3 sc s1 s2 s3 = some (r, sc', t1, t2, t3) ∧ f_M_weigh p1 p2 p3 sc s1 s2 s3 = some (r, sc', t1, t2, t3) ∧ SIG sc' t1 t2 t3 := by
  obtain ⟨⟨n, hn, rfl⟩, z1, z2, z3⟩ := id h
  obtain ⟨y, hy, wC, wM⟩ := weighing_eq p1 p2
  have i3 := inL_eq p3 (lo := 0) (hi := 2) (by decide) (by decide)
  unfold f_C_weigh f_M_weigh
  rw [bind_some' wC, bind_some' wM]
  rcases hy with rfl | rfl
  · rw [if_pos rfl, if_pos rfl]
    exact ⟨_, _, _, _, _, rfl, rfl, h⟩
  · rw [if_neg (by decide), if_neg (by decide)]
    rcases within_cases p3 (lo := 0) (hi := 2) (by decide) (by decide) with ⟨x, -, hx, rfl, w⟩ | w
    · rw [w] at i3
      rw [bind_some' (show f_C_isWithin (nI x) 0 2 = some 1 from w), bind_some' (show f_M_in (Int32.toInt64 (nI x)) 0 2 = some 1 from i3), if_neg (by decide), if_neg (by decide)]
      unfold f_S_append
      by_cases z : n = 8
      · subst z
        rw [if_neg (by decide), bind_some' rfl, if_pos (show (0 : Int32) = 0 from rfl), if_pos (show nI 8 = 8 from rfl)]
        exact ⟨_, _, _, _, _, rfl, rfl, h⟩
      · rw [if_pos (show nI n < 8 from nI_lt (b := 8) (by omega) (by decide)), kx_nI (by omega) (by decide), kx_nI (by omega) (by decide), kx_nI (by omega) (by decide), bind_some' rfl, if_neg (show ¬ (1 : Int32) = 0 by decide), if_neg (show ¬ nI n = 8 from fun y => z ((nI_eq (b := 8) (by omega) (by decide)).mp y)), kx_nI (by omega) (by decide), kx_nI (by omega) (by decide), kx_nI (by omega) (by decide), nI_clamp (by omega), nI_1]
        exact ⟨_, _, _, _, _, rfl, rfl, ⟨n + 1, by omega, rfl⟩, z1.upd (by omega), z2.upd (by omega), z3.upd (by omega)⟩
    · rw [w] at i3
      rw [bind_some' (show f_C_isWithin p3 0 2 = some 0 from w), bind_some' (show f_M_in (Int32.toInt64 p3) 0 2 = some 0 from i3), if_pos rfl, if_pos rfl]
      exact ⟨_, _, _, _, _, rfl, rfl, h⟩
/-- what a weighing comes to -/
noncomputable def hv (k a b : Int32) : Int32 := (f_S_heavierIn k a b).getD 0
theorem heavier_some (k a b : Int32) : f_S_heavierIn k a b = some (hv k a b) ∧ (hv k a b = 0 ∨ hv k a b = 1 ∨ hv k a b = 2) := by
  unfold hv f_S_heavierIn jn_S_heavierIn_24
  repeat' split
  all_goals exact ⟨rfl, by decide⟩
theorem comes_eq (k a b : Int32) : f_M_comesTo k a b = some (hv k a b) := by
  rw [← (heavier_some k a b).1]
  have key : ∀ x1 x2 x3 y : Int32, jn_M_comesTo_24 x1 x2 x3 y = jn_S_heavierIn_24 x1 x2 x3 y := by
    intro x1 x2 x3 y
    unfold jn_M_comesTo_24 jn_S_heavierIn_24 f_M_has
    by_cases q : ((x1 >>> (x3 &&& 31)) &&& 1) = 1
    · rw [if_pos q, if_pos q, bind_some' rfl, if_neg (by decide)]
    · rw [if_neg q, if_neg q, bind_some' rfl, if_pos rfl]
      by_cases q2 : ((x2 >>> (x3 &&& 31)) &&& 1) = 1
      · rw [if_pos q2, if_pos q2, bind_some' rfl, if_neg (by decide)]
      · rw [if_neg q2, if_neg q2, bind_some' rfl, if_pos rfl]
  unfold f_M_comesTo f_S_heavierIn
  rw [key, key]
noncomputable def fitb (k : Int32) (s1 s2 s3 : Nat → Int32) : Nat → Bool
  | 0 => true
  | e + 1 => fitb k s1 s2 s3 e && decide (hv k (s1 e) (s2 e) = s3 e)
theorem fitb_no {k : Int32} {s1 s2 s3 : Nat → Int32} {m : Nat} (h : fitb k s1 s2 s3 m = false) : ∀ j, fitb k s1 s2 s3 (m + j) = false := by
  intro j
  induction j with
  | zero => exact h
  | succ j ih => show (fitb k s1 s2 s3 (m + j) && _) = false; rw [ih]; rfl
theorem fitC {k : Int32} {s1 s2 s3 : Nat → Int32} {n : Nat} (hn : n ≤ 8) : f_S_isFitting k (nI n) s1 s2 s3 = some (if fitb k s1 s2 s3 n = true then 1 else 0) := by
  have key : ∀ j i, i + j = n → fitb k s1 s2 s3 i = true → ∀ f, j < f → it1 (bd_S_isFitting_2 k (nI n) s1 s2 s3) f (nI i) = some (if fitb k s1 s2 s3 n = true then 1 else 0) := by
    intro j
    induction j with
    | zero =>
      intro i hi hb f hf
      obtain ⟨f, rfl⟩ : ∃ g, f = g + 1 := ⟨f - 1, by omega⟩
      have : i = n := by omega
      subst this
      show bd_S_isFitting_2 k (nI i) s1 s2 s3 (it1 (bd_S_isFitting_2 k (nI i) s1 s2 s3) f) (nI i) = _
      unfold bd_S_isFitting_2
      rw [if_pos (nI_le (Nat.le_refl i) (by omega)), if_pos hb]
    | succ j ih =>
      intro i hi hb f hf
      obtain ⟨f, rfl⟩ : ∃ g, f = g + 1 := ⟨f - 1, by omega⟩
      show bd_S_isFitting_2 k (nI n) s1 s2 s3 (it1 (bd_S_isFitting_2 k (nI n) s1 s2 s3) f) (nI i) = _
      unfold bd_S_isFitting_2
      rw [if_neg (nI_ge (show i < n by omega) (by omega)), if_neg (show ¬ (8 : Int32) ≤ nI i from nI_ge (b := 8) (by omega) (by decide)), kx_nI (by omega) (by decide), kx_nI (by omega) (by decide), nI_clamp (by omega), bind_some' (heavier_some _ _ _).1, kx_nI (by omega) (by decide), nI_1]
      by_cases z : hv k (s1 i) (s2 i) = s3 i
      · rw [if_pos z]
        exact ih (i + 1) (by omega) (by show (fitb k s1 s2 s3 i && decide _) = true; rw [hb, decide_eq_true z]; rfl) f (by omega)
      · rw [if_neg z]
        have h1 : fitb k s1 s2 s3 (i + 1) = false := by show (fitb k s1 s2 s3 i && decide _) = false; rw [hb, decide_eq_false z]; rfl
        have h2 := fitb_no h1 (n - (i + 1))
        rw [show i + 1 + (n - (i + 1)) = n by omega] at h2
        rw [if_neg (by rw [h2]; decide)]
  exact key n 0 (by omega) rfl 1100 (by omega)
theorem fitM {k : Int32} {s1 s2 s3 : Nat → Int32} {n : Nat} (hn : n ≤ 8) : f_M_isFit k (nI n) s1 s2 s3 = some (if fitb k s1 s2 s3 n = true then 1 else 0) := by
  unfold f_M_isFit
  have h := it2_seq (F := bd_M_isFit_4 k (nI n) s1 s2 s3) (fun i => if fitb k s1 s2 s3 i = true then 1 else 0) (fun i => nI i) n (K := some (if fitb k s1 s2 s3 n = true then 1 else 0)) ?_ ?_ 1100 (by omega)
  · exact h
  · intro i hi r
    show bd_M_isFit_4 k (nI n) s1 s2 s3 r (if fitb k s1 s2 s3 i = true then 1 else 0) (nI i) = r (if (fitb k s1 s2 s3 i && decide (hv k (s1 i) (s2 i) = s3 i)) = true then 1 else 0) (nI (i + 1))
    unfold bd_M_isFit_4
    rw [if_neg (nI_ge hi (by omega)), kx_nI (by omega) (by decide), kx_nI (by omega) (by decide), nI_clamp (by omega), bind_some' (comes_eq _ _ _), kx_nI (by omega) (by decide), nI_1]
    cases hb : fitb k s1 s2 s3 i
    · rfl
    · by_cases z : hv k (s1 i) (s2 i) = s3 i
      · rw [if_pos z, decide_eq_true z]; rfl
      · rw [if_neg z, decide_eq_false z]; rfl
  · intro r
    show bd_M_isFit_4 k (nI n) s1 s2 s3 r (if fitb k s1 s2 s3 n = true then 1 else 0) (nI n) = _
    unfold bd_M_isFit_4
    rw [if_pos (nI_le (Nat.le_refl n) (by omega))]
    cases fitb k s1 s2 s3 n <;> rfl
