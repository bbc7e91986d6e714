/-! a row told by its number: ofRow and readRow -/
theorem fb_holes : ∀ (m n : Nat) (f : Nat → Nat), (∀ i, i < n → f i < m) → (∀ i j, i < j → j < n → f i ≠ f j) → n ≤ m := by
  intro m
  induction m with
  | zero =>
    intro n f h1 _
    rcases Nat.eq_zero_or_pos n with h | h
    · omega
    · exact absurd (h1 0 h) (Nat.not_lt_zero _)
  | succ m ih =>
    intro n f h1 h2
    by_cases hx : ∃ i, i < n ∧ f i = m
    · obtain ⟨a, ha, hfa⟩ := hx
      have hg := ih (n - 1) (fun i => if i < a then f i else f (i + 1)) (by
        intro i hi
        by_cases q : i < a
        · simp only [if_pos q]
          have b1 := h1 i (by omega)
          have b2 := h2 i a q ha
          omega
        · simp only [if_neg q]
          have b1 := h1 (i + 1) (by omega)
          have b2 := h2 a (i + 1) (by omega) (by omega)
          omega) (by
        intro i j hij hj
        by_cases q : i < a
        · by_cases r : j < a
          · simp only [if_pos q, if_pos r]
            exact h2 i j hij (by omega)
          · simp only [if_pos q, if_neg r]
            exact h2 i (j + 1) (by omega) (by omega)
        · have r : ¬ j < a := by omega
          simp only [if_neg q, if_neg r]
          exact h2 (i + 1) (j + 1) (by omega) (by omega))
      omega
    · have hg := ih n f (fun i hi => by
        have b1 := h1 i hi
        have b2 : f i ≠ m := fun e => hx ⟨i, hi, e⟩
        omega) h2
      omega
/-- two of them in one place -/
theorem fb_twice {m n : Nat} {f : Nat → Nat} (h : ∀ i, i < n → f i < m) (hm : m < n) : ∃ i j, i < j ∧ j < n ∧ f i = f j := by
  refine Classical.byContradiction fun hx => ?_
  have := fb_holes m n f h (fun i j hij hj e => hx ⟨i, j, hij, hj, e⟩)
  omega
/-- as many as places, none twice: each place is taken -/
theorem fb_onto {n : Nat} {f : Nat → Nat} (h : ∀ i, i < n → f i < n) (h2 : ∀ i j, i < j → j < n → f i ≠ f j) {y : Nat} (hy : y < n) : ∃ i, i < n ∧ f i = y := by
  refine Classical.byContradiction fun hx => ?_
  have hne : ∀ i, i < n → f i ≠ y := fun i hi e => hx ⟨i, hi, e⟩
  have := fb_holes (n - 1) n (fun i => if f i < y then f i else f i - 1) (by
    intro i hi
    have b1 := h i hi
    have b2 := hne i hi
    by_cases q : f i < y
    · simp only [if_pos q]; omega
    · simp only [if_neg q]; omega) (by
    intro i j hij hj
    have b1 := hne i (by omega)
    have b2 := hne j hj
    have b3 := h2 i j hij hj
    by_cases q : f i < y
    · by_cases r : f j < y
      · simp only [if_pos q, if_pos r]; exact b3
      · simp only [if_pos q, if_neg r]; omega
    · by_cases r : f j < y
      · simp only [if_neg q, if_pos r]; omega
      · simp only [if_neg q, if_neg r]; omega)
  omega
/-! ===== how many places have a property ===== -/
def Lr (p : Int32) : Nat → Int32
  | 0 => p
  | i + 1 => Lr p i / 10
def dgr (p : Int32) (i : Nat) : Int32 := Lr p i - Lr p i / 10 * 10
def ctr : Nat → Int32
  | 0 => 5
  | i + 1 => ctr i + (-1)
def Mtr (p : Int32) : Nat → Int32
  | 0 => 0
  | i + 1 => Mtr p i ||| (if 0 ≤ p then (1 : Int32) <<< (dgr p i &&& 31) else 0)
def Dgr (p : Int32) (dd : Nat → Int32) : Nat → (Nat → Int32)
  | 0 => dd
  | i + 1 => upd (Dgr p dd i) (5 - i) (dgr p i)
def Orr (p : Int32) : Nat → Int32
  | 0 => 0
  | i + 1 => Orr p i ||| ((dgr p i &&& 7) <<< ((3 * ctr i) &&& 31))
def Str (p : Int32) : Nat → Int32
  | 0 => 0
  | i + 1 => Str p i ||| ((1 : Int32) <<< (dgr p i &&& 31))
theorem ctr_lt : ∀ i, i < 6 → ctr i = nI (5 - i) := lt6 (by decide) (by decide) (by decide) (by decide) (by decide) (by decide)
theorem readRow_seq (p : Int32) (dd : Nat → Int32) : f_M_readRow p dd = if p < 0 then some (0, Dgr p dd 6) else if Lr p 6 = 0 then (if Mtr p 6 = 63 then some (1, Dgr p dd 6) else some (0, Dgr p dd 6)) else some (0, Dgr p dd 6) := by
  unfold f_M_readRow
  refine it4_seq (fun i => Lr p i) (fun i => Mtr p i) (fun i => ctr i) (fun i => Dgr p dd i) 6 ?_ ?_ 1100 (by decide)
  · intro i hi r
    show bd_M_readRow_7 p r (Lr p i) (Mtr p i) (ctr i) (Dgr p dd i) = r (Lr p i / 10) (Mtr p i ||| (if 0 ≤ p then (1 : Int32) <<< (dgr p i &&& 31) else 0)) (ctr i + (-1)) (upd (Dgr p dd i) (5 - i) (dgr p i))
    unfold bd_M_readRow_7 jn_M_readRow_38
    rw [ctr_lt i hi, if_neg (nI_pos (by omega)), kx_nI (by omega) (by decide), nI_clamp (by omega)]
    by_cases z : 0 ≤ p
    · rw [if_pos z, if_pos z]; rfl
    · rw [if_neg z, if_neg z]; rfl
  · intro r
    show bd_M_readRow_7 p r (Lr p 6) (Mtr p 6) (ctr 6) (Dgr p dd 6) = _
    unfold bd_M_readRow_7
    rw [if_pos (show ctr 6 < 0 by decide)]
theorem ofRow_seq (p : Int32) : it4 bd_O_ofRow_22 1100 0 0 p 5 = if Str p 6 = 63 then some (Orr p 6) else some (-6) := by
  refine it4_seq (fun i => Orr p i) (fun i => Str p i) (fun i => Lr p i) (fun i => ctr i) 6 ?_ ?_ 1100 (by decide)
  · intro i hi r
    show bd_O_ofRow_22 r (Orr p i) (Str p i) (Lr p i) (ctr i) = r (Orr p i ||| ((dgr p i &&& 7) <<< ((3 * ctr i) &&& 31))) (Str p i ||| ((1 : Int32) <<< (dgr p i &&& 31))) (Lr p i / 10) (ctr i + (-1))
    unfold bd_O_ofRow_22
    rw [if_neg (by rw [ctr_lt i hi]; exact nI_pos (by omega))]
    rfl
  · intro r
    show bd_O_ofRow_22 r (Orr p 6) (Str p 6) (Lr p 6) (ctr 6) = _
    unfold bd_O_ofRow_22
    rw [if_pos (show ctr 6 < 0 by decide)]
theorem Lr_nI {n : Nat} (hn : n < 2 ^ 31) : ∀ i, Lr (nI n) i = nI (n / 10 ^ i) := by
  intro i
  induction i with
  | zero => show nI n = nI (n / 10 ^ 0); rw [Nat.pow_zero, Nat.div_one]
  | succ i ih =>
    show Lr (nI n) i / 10 = _
    have hle : n / 10 ^ i ≤ n := Nat.div_le_self _ _
    rw [ih, show (10 : Int32) = nI 10 from rfl, pk_div (by omega) (by decide) (by decide), Nat.div_div_eq_div_mul, Nat.pow_succ]
theorem dgr_nI {n : Nat} (hn : n < 2 ^ 31) (i : Nat) : dgr (nI n) i = nI (n / 10 ^ i % 10) := by
  unfold dgr
  have hle : n / 10 ^ i ≤ n := Nat.div_le_self _ _
  rw [Lr_nI hn, show (10 : Int32) = nI 10 from rfl, pk_rem (by omega) (by decide) (by decide)]
theorem one_shl : ((List.range 10).all fun d => decide ((1 : Int32) <<< (nI d &&& 31) = nI (2 ^ d))) = true := by decide +kernel
def metN (n : Nat) : Nat := ((((((0 ||| 2 ^ (n / 10 ^ 0 % 10)) ||| 2 ^ (n / 10 ^ 1 % 10)) ||| 2 ^ (n / 10 ^ 2 % 10)) ||| 2 ^ (n / 10 ^ 3 % 10)) ||| 2 ^ (n / 10 ^ 4 % 10)) ||| 2 ^ (n / 10 ^ 5 % 10))
theorem Str_nI {n : Nat} (hn : n < 2 ^ 31) : Str (nI n) 6 = nI (metN n) := by
  have h1 : ∀ i, (1 : Int32) <<< (dgr (nI n) i &&& 31) = nI (2 ^ (n / 10 ^ i % 10)) := fun i => by
    rw [dgr_nI hn]
    exact of_decide_eq_true (all_lt one_shl (Nat.mod_lt _ (by decide)))
  unfold Str Str Str Str Str Str Str metN
  rw [h1, h1, h1, h1, h1, h1, show (0 : Int32) = nI 0 from rfl, fa_or, fa_or, fa_or, fa_or, fa_or, fa_or]
theorem Mtr_Str {p : Int32} (h : 0 ≤ p) : ∀ i, Mtr p i = Str p i := by
  intro i
  induction i with
  | zero => rfl
  | succ i ih =>
    show Mtr p i ||| (if 0 ≤ p then (1 : Int32) <<< (dgr p i &&& 31) else 0) = Str p i ||| ((1 : Int32) <<< (dgr p i &&& 31))
    rw [ih, if_pos h]
theorem metN_lt (n : Nat) : metN n < 2 ^ 10 := by
  have h : ∀ i, 2 ^ (n / 10 ^ i % 10) < 2 ^ 10 := fun i => Nat.pow_lt_pow_right (by decide) (Nat.mod_lt _ (by decide))
  unfold metN
  exact Nat.or_lt_two_pow (Nat.or_lt_two_pow (Nat.or_lt_two_pow (Nat.or_lt_two_pow (Nat.or_lt_two_pow (Nat.or_lt_two_pow (by decide) (h 0)) (h 1)) (h 2)) (h 3)) (h 4)) (h 5)
theorem metN_bit (n v : Nat) : (metN n).testBit v = true ↔ ∃ i, i < 6 ∧ n / 10 ^ i % 10 = v := by
  unfold metN
  simp only [Nat.testBit_or, Nat.zero_testBit, Nat.testBit_two_pow, Bool.or_eq_true, decide_eq_true_eq, Bool.false_eq_true, false_or]
  constructor
  · rintro (((((h | h) | h) | h) | h) | h)
    · exact ⟨0, by decide, h⟩
    · exact ⟨1, by decide, h⟩
    · exact ⟨2, by decide, h⟩
    · exact ⟨3, by decide, h⟩
    · exact ⟨4, by decide, h⟩
    · exact ⟨5, by decide, h⟩
  · rintro ⟨i, hi, h⟩
    revert h
    revert i
    exact lt6 (fun h => Or.inl (Or.inl (Or.inl (Or.inl (Or.inl h))))) (fun h => Or.inl (Or.inl (Or.inl (Or.inl (Or.inr h))))) (fun h => Or.inl (Or.inl (Or.inl (Or.inr h)))) (fun h => Or.inl (Or.inl (Or.inr h))) (fun h => Or.inl (Or.inr h)) (fun h => Or.inr h)
/-- six figures, each of 0 to 5 among them: they are a change of places -/
theorem met63 {n : Nat} (h : metN n = 63) : P6 (n / 10 ^ 5 % 10) (n / 10 ^ 4 % 10) (n / 10 ^ 3 % 10) (n / 10 ^ 2 % 10) (n / 10 ^ 1 % 10) (n / 10 ^ 0 % 10) := by
  have hlt : ∀ i, i < 6 → n / 10 ^ i % 10 < 6 := by
    intro i hi
    have hb := (metN_bit n (n / 10 ^ i % 10)).mpr ⟨i, hi, rfl⟩
    rw [h] at hb
    have h10 : n / 10 ^ i % 10 < 10 := Nat.mod_lt _ (by decide)
    revert hb h10
    generalize n / 10 ^ i % 10 = d
    intro hb h10
    match d, hb, h10 with
    | 0, _, _ => decide
    | 1, _, _ => decide
    | 2, _, _ => decide
    | 3, _, _ => decide
    | 4, _, _ => decide
    | 5, _, _ => decide
    | 6, hb, _ => exact absurd hb (by decide)
    | 7, hb, _ => exact absurd hb (by decide)
    | 8, hb, _ => exact absurd hb (by decide)
    | 9, hb, _ => exact absurd hb (by decide)
    | d + 10, _, h10 => exact absurd h10 (by omega)
  have hon : ∀ v, v < 6 → ∃ i, i < 6 ∧ n / 10 ^ i % 10 = v := by
    intro v hv
    refine (metN_bit n v).mp ?_
    rw [h]
    revert v
    exact lt6 (by decide) (by decide) (by decide) (by decide) (by decide) (by decide)
  have hc : ∀ v, ∃ i, v < 6 → i < 6 ∧ n / 10 ^ i % 10 = v := by
    intro v
    by_cases hv : v < 6
    · obtain ⟨i, h1, h2⟩ := hon v hv
      exact ⟨i, fun _ => ⟨h1, h2⟩⟩
    · exact ⟨0, fun q => absurd q hv⟩
  obtain ⟨g, hg⟩ : ∃ g : Nat → Nat, ∀ v, v < 6 → g v < 6 ∧ n / 10 ^ (g v) % 10 = v := ⟨fun v => Classical.choose (hc v), fun v => Classical.choose_spec (hc v)⟩
  have ginj : ∀ i j, i < j → j < 6 → g i ≠ g j := by
    intro i j hij hj e
    have h1 := (hg i (by omega)).2
    have h2 := (hg j hj).2
    rw [e] at h1
    omega
  have inj : ∀ i j, i < 6 → j < 6 → n / 10 ^ i % 10 = n / 10 ^ j % 10 → i = j := by
    intro i j hi hj e
    obtain ⟨v, hv, ev⟩ := fb_onto (f := g) (fun i hi => (hg i hi).1) ginj hi
    obtain ⟨w, hw, ew⟩ := fb_onto (f := g) (fun i hi => (hg i hi).1) ginj hj
    have h1 := (hg v hv).2
    have h2 := (hg w hw).2
    rw [ev] at h1
    rw [ew] at h2
    have : v = w := by omega
    rw [← ev, ← ew, this]
  exact P6.of_inj (l := fun k => n / 10 ^ (5 - k) % 10) (fun i hi => hlt (5 - i) (by omega)) (fun i j hi hj e => by have := inj (5 - i) (5 - j) (by omega) (by omega) e; omega)
theorem row_chk : chk6 (fun a b c d e f => decide (100000 * a + 10000 * b + 1000 * c + 100 * d + 10 * e + f ≤ 543210) && decide (((((((0 ||| f * 8 ^ 5) ||| e * 8 ^ 4) ||| d * 8 ^ 3) ||| c * 8 ^ 2) ||| b * 8 ^ 1) ||| a * 8 ^ 0) = pk6 a b c d e f)) = true := by decide +kernel
theorem Orr_nI {n : Nat} (hn : n < 2 ^ 31) (hp : P6 (n / 10 ^ 5 % 10) (n / 10 ^ 4 % 10) (n / 10 ^ 3 % 10) (n / 10 ^ 2 % 10) (n / 10 ^ 1 % 10) (n / 10 ^ 0 % 10)) : Orr (nI n) 6 = or6 (n / 10 ^ 5 % 10) (n / 10 ^ 4 % 10) (n / 10 ^ 3 % 10) (n / 10 ^ 2 % 10) (n / 10 ^ 1 % 10) (n / 10 ^ 0 % 10) := by
  have hx : ∀ i, i < 6 → n / 10 ^ i % 10 < 6 → (dgr (nI n) i &&& 7) <<< ((3 * ctr i) &&& 31) = nI (n / 10 ^ i % 10 * 8 ^ (5 - i)) := by
    intro i hi h6
    rw [dgr_nI hn, show (7 : Int32) = nI (2 ^ 3 - 1) from rfl, fa_mask, Nat.mod_eq_of_lt (show n / 10 ^ i % 10 < 2 ^ 3 by omega), ctr_lt i hi, shl_nI (by omega) _ (by omega)]
  have h2 := (Bool.and_eq_true _ _).mp (chk6_use row_chk hp)
  have h3 := of_decide_eq_true h2.2
  obtain ⟨⟨q5, q4, q3, q2, q1, q0⟩, -⟩ := hp
  unfold or6 Orr Orr Orr Orr Orr Orr Orr
  rw [hx 0 (by decide) q0, hx 1 (by decide) q1, hx 2 (by decide) q2, hx 3 (by decide) q3, hx 4 (by decide) q4, hx 5 (by decide) q5, show (0 : Int32) = nI 0 from rfl, fa_or, fa_or, fa_or, fa_or, fa_or, fa_or, ← h3]
theorem Dgr_Z {p : Int32} {dd : Nat → Int32} (hz : Zn 6 dd) : Zn 6 (Dgr p dd 6) := by
  intro k hk
  unfold Dgr Dgr Dgr Dgr Dgr Dgr Dgr
  rw [upd_ne (by omega), upd_ne (by omega), upd_ne (by omega), upd_ne (by omega), upd_ne (by omega), upd_ne (by omega)]
  exact hz k hk
theorem or6_ne {a b c d e f : Nat} (hp : P6 a b c d e f) : ¬ or6 a b c d e f = -6 := nI_ne_m6 (by have := pk6_lt hp; omega)
/-- a row: class and reference -/
theorem readRow_cases (p : Int32) {dd : Nat → Int32} (hz : Zn 6 dd) : (∃ a b c d e f, P6 a b c d e f ∧ f_O_ofRow p = some (or6 a b c d e f) ∧ f_M_readRow p dd = some (1, on6 a b c d e f)) ∨ (f_O_ofRow p = some (-6) ∧ ∃ D, Zn 6 D ∧ f_M_readRow p dd = some (0, D)) := by
  rw [readRow_seq]
  unfold f_O_ofRow
  by_cases h0 : p < 0
  · right
    have hw : f_C_isWithin p 0 543210 = some 0 := by unfold f_C_isWithin; rw [if_pos h0]
    refine ⟨by rw [bind_some' hw, if_pos rfl], Dgr p dd 6, Dgr_Z hz, by rw [if_pos h0]⟩
  · rw [if_neg h0]
    obtain ⟨n, hn, rfl⟩ := nI_of h0
    have hw : f_C_isWithin (nI n) 0 543210 = some (if 0 ≤ n ∧ n ≤ 543210 then 1 else 0) := within_nI (lo := 0) (hi := 543210) hn (by decide) (by decide)
    have hm : Mtr (nI n) 6 = nI (metN n) := by rw [Mtr_Str (nI_pos' hn), Str_nI hn]
    rw [bind_some' hw, ofRow_seq, Str_nI hn, hm, Lr_nI hn]
    have hml := metN_lt n
    by_cases h63 : metN n = 63
    · have hp := met63 h63
      have hle := of_decide_eq_true ((Bool.and_eq_true _ _).mp (chk6_use row_chk hp)).1
      rw [if_pos (show nI (metN n) = 63 by rw [h63]; rfl), if_pos (show nI (metN n) = 63 by rw [h63]; rfl)]
      by_cases h6 : n / 10 ^ 6 = 0
      · left
        have hn6 : n < 1000000 := by
          have := Nat.div_eq_zero_iff.mp h6
          omega
        have hsum : n = 100000 * (n / 10 ^ 5 % 10) + 10000 * (n / 10 ^ 4 % 10) + 1000 * (n / 10 ^ 3 % 10) + 100 * (n / 10 ^ 2 % 10) + 10 * (n / 10 ^ 1 % 10) + n / 10 ^ 0 % 10 := by omega
        refine ⟨_, _, _, _, _, _, hp, ?_, ?_⟩
        · rw [if_pos (show 0 ≤ n ∧ n ≤ 543210 by omega), if_neg (by decide), Orr_nI hn hp]
        · rw [if_pos (show nI (n / 10 ^ 6) = 0 by rw [h6]; rfl)]
          congr 2
          funext k
          by_cases hk : k < 6
          · revert k
            unfold Dgr Dgr Dgr Dgr Dgr Dgr Dgr
            rw [dgr_nI hn, dgr_nI hn, dgr_nI hn, dgr_nI hn, dgr_nI hn, dgr_nI hn]
            exact lt6 rfl rfl rfl rfl rfl rfl
          · rw [Dgr_Z hz k (by omega), on6_Z k (by omega)]
      · right
        have hbig : ¬ (0 ≤ n ∧ n ≤ 543210) := by
          intro q
          exact h6 (Nat.div_eq_of_lt (by omega))
        refine ⟨by rw [if_neg hbig, if_pos rfl], Dgr (nI n) dd 6, Dgr_Z hz, ?_⟩
        have hq : n / 10 ^ 6 ≤ n := Nat.div_le_self _ _
        rw [if_neg (show ¬ nI (n / 10 ^ 6) = 0 from nI_ne0 (by omega) (by omega))]
    · right
      have hne : ¬ nI (metN n) = 63 := fun z => h63 ((nI_eq (b := 63) (by omega) (by decide)).mp z)
      rw [if_neg hne, if_neg hne]
      refine ⟨?_, Dgr (nI n) dd 6, Dgr_Z hz, by rw [ite_self]⟩
      by_cases q : 0 ≤ n ∧ n ≤ 543210
      · rw [if_pos q, if_neg (by decide)]
      · rw [if_neg q, if_pos rfl]
