/-! orders: six places, which cup is on each -/
def P6 (a b c d e f : Nat) : Prop := (a < 6 ∧ b < 6 ∧ c < 6 ∧ d < 6 ∧ e < 6 ∧ f < 6) ∧ b ≠ a ∧ (c ≠ a ∧ c ≠ b) ∧ (d ≠ a ∧ d ≠ b ∧ d ≠ c) ∧ (e ≠ a ∧ e ≠ b ∧ e ≠ c ∧ e ≠ d) ∧ (f ≠ a ∧ f ≠ b ∧ f ≠ c ∧ f ≠ d ∧ f ≠ e)
def on6 (a b c d e f : Nat) : Nat → Int32 := fun k => ([nI a, nI b, nI c, nI d, nI e, nI f] : List Int32).getD k 0
def pk6 (a b c d e f : Nat) : Nat := a + 8 * b + 64 * c + 512 * d + 4096 * e + 32768 * f
def or6 (a b c d e f : Nat) : Int32 := nI (pk6 a b c d e f)
def chk6 (Q : Nat → Nat → Nat → Nat → Nat → Nat → Bool) : Bool :=
  (List.range 6).all fun a => (List.range 6).all fun b => (b == a) || (List.range 6).all fun c => (c == a || c == b) || (List.range 6).all fun d => (d == a || d == b || d == c) || (List.range 6).all fun e => (e == a || e == b || e == c || e == d) || (List.range 6).all fun f => (f == a || f == b || f == c || f == d || f == e) || Q a b c d e f
theorem chk6_use {Q : Nat → Nat → Nat → Nat → Nat → Nat → Bool} (h : chk6 Q = true) {a b c d e f : Nat} (hp : P6 a b c d e f) : Q a b c d e f = true := by
  obtain ⟨⟨h1, h2, h3, h4, h5, h6⟩, q1, q2, q3, q4, q5⟩ := hp
  have k1 := List.all_eq_true.mp h a (List.mem_range.mpr h1)
  have k2 := List.all_eq_true.mp k1 b (List.mem_range.mpr h2)
  simp only [Bool.or_eq_true, beq_iff_eq, q1, false_or] at k2
  have k3 := List.all_eq_true.mp k2 c (List.mem_range.mpr h3)
  simp only [Bool.or_eq_true, beq_iff_eq, q2.1, q2.2, false_or] at k3
  have k4 := List.all_eq_true.mp k3 d (List.mem_range.mpr h4)
  simp only [Bool.or_eq_true, beq_iff_eq, q3.1, q3.2.1, q3.2.2, false_or] at k4
  have k5 := List.all_eq_true.mp k4 e (List.mem_range.mpr h5)
  simp only [Bool.or_eq_true, beq_iff_eq, q4.1, q4.2.1, q4.2.2.1, q4.2.2.2, false_or] at k5
  have k6 := List.all_eq_true.mp k5 f (List.mem_range.mpr h6)
  simpa only [Bool.or_eq_true, beq_iff_eq, q5.1, q5.2.1, q5.2.2.1, q5.2.2.2.1, q5.2.2.2.2, false_or] using k6
def dg (o i : Nat) : Nat := o / 8 ^ i % 8
theorem cupOn_nI {o : Nat} (ho : o < 262144) : ∀ i, i < 6 → f_O_cupOn (nI o) (nI i) = some (nI (dg o i)) := by
  have key : ∀ i, (((3 * nI i : Int32) &&& 31).toBitVec.smod 32).toNat = 3 * i → f_O_cupOn (nI o) (nI i) = some (nI (dg o i)) := by
    intro i hi
    unfold f_O_cupOn
    rw [pk_shrN (by omega) _ (3 * i) hi, show (7 : Int32) = nI (2 ^ 3 - 1) from rfl, fa_mask, Nat.pow_mul]
    rfl
  exact lt6 (key 0 (by decide)) (key 1 (by decide)) (key 2 (by decide)) (key 3 (by decide)) (key 4 (by decide)) (key 5 (by decide))
theorem pk6_lt {a b c d e f : Nat} (hp : P6 a b c d e f) : pk6 a b c d e f < 262144 := by
  obtain ⟨⟨h1, h2, h3, h4, h5, h6⟩, -⟩ := hp
  unfold pk6
  omega
def l6 (a b c d e f : Nat) : Nat → Nat := fun k => ([a, b, c, d, e, f] : List Nat).getD k 0
theorem on6_l6 {a b c d e f : Nat} : ∀ i, i < 6 → on6 a b c d e f i = nI (l6 a b c d e f i) := lt6 rfl rfl rfl rfl rfl rfl
theorem on6_Z {a b c d e f : Nat} : Zn 6 (on6 a b c d e f) := fun k hk => by
  obtain ⟨j, rfl⟩ : ∃ j, k = j + 6 := ⟨k - 6, by omega⟩
  rfl
theorem dg_l6 {a b c d e f : Nat} (hp : P6 a b c d e f) : ∀ i, i < 6 → dg (pk6 a b c d e f) i = l6 a b c d e f i := by
  obtain ⟨⟨h1, h2, h3, h4, h5, h6⟩, -⟩ := hp
  unfold dg pk6
  refine lt6 ?_ ?_ ?_ ?_ ?_ ?_
  · show _ % 8 = a; omega
  · show _ % 8 = b; omega
  · show _ % 8 = c; omega
  · show _ % 8 = d; omega
  · show _ % 8 = e; omega
  · show _ % 8 = f; omega
theorem cup6 {a b c d e f : Nat} (hp : P6 a b c d e f) (i : Nat) (hi : i < 6) : f_O_cupOn (or6 a b c d e f) (nI i) = some (nI (l6 a b c d e f i)) := by
  unfold or6
  rw [cupOn_nI (pk6_lt hp) i hi, dg_l6 hp i hi]
theorem cup6v {a b c d e f : Nat} (hp : P6 a b c d e f) (i : Nat) (hi : i < 6) : (or6 a b c d e f >>> ((3 * nI i : Int32) &&& 31)) &&& 7 = nI (l6 a b c d e f i) := by
  have h := cup6 hp i hi
  unfold f_O_cupOn at h
  exact Option.some.inj h
theorem l6_lt {a b c d e f : Nat} (hp : P6 a b c d e f) : ∀ i, i < 6 → l6 a b c d e f i < 6 := by
  obtain ⟨⟨h1, h2, h3, h4, h5, h6⟩, -⟩ := hp
  exact lt6 h1 h2 h3 h4 h5 h6
/-- where a cup is -/
def pl6 (a b c d e f k : Nat) : Nat := if a = k then 0 else if b = k then 1 else if c = k then 2 else if d = k then 3 else if e = k then 4 else 5
theorem pl6_lt (a b c d e f k : Nat) : pl6 a b c d e f k < 6 := by
  unfold pl6
  repeat' split
  all_goals decide
set_option maxRecDepth 100000 in
theorem l6_pl_chk : chk6 (fun a b c d e f => (List.range 6).all fun i => (List.range 6).all fun k => (l6 a b c d e f i == k) == (i == pl6 a b c d e f k)) = true := by decide +kernel
theorem l6_pl {a b c d e f i k : Nat} (hp : P6 a b c d e f) (hi : i < 6) (hk : k < 6) : l6 a b c d e f i = k ↔ i = pl6 a b c d e f k := by
  have h := all_lt (all_lt (chk6_use l6_pl_chk hp) hi) hk
  have h2 : (l6 a b c d e f i == k) = (i == pl6 a b c d e f k) := beq_iff_eq.mp h
  rw [← beq_iff_eq (a := l6 a b c d e f i), h2, beq_iff_eq]
/-- where a cup is: class and reference -/
theorem placeC {a b c d e f k : Nat} (hp : P6 a b c d e f) (hk : k < 6) : f_O_placeOf (or6 a b c d e f) (nI k) = some (nI (pl6 a b c d e f k)) := by
  have hpl := pl6_lt a b c d e f k
  have st : ∀ i, i < 6 → ∀ r, bd_O_placeOf_2 (or6 a b c d e f) (nI k) r (nI i) = if i = pl6 a b c d e f k then some (nI i) else r (nI (i + 1)) := by
    intro i hi r
    unfold bd_O_placeOf_2
    rw [if_neg (show ¬ (6 : Int32) ≤ nI i from nI_ge hi (by decide)), cup6v hp i hi, nI_1]
    have he : (nI (l6 a b c d e f i) = nI k) ↔ i = pl6 a b c d e f k := by
      rw [nI_eq (by have := l6_lt hp i hi; omega) (by omega)]
      exact l6_pl hp hi hk
    by_cases q : i = pl6 a b c d e f k
    · rw [if_pos (he.mpr q), if_pos q]
    · rw [if_neg (fun z => q (he.mp z)), if_neg q]
  unfold f_O_placeOf
  refine it1_seq (fun i => nI i) (pl6 a b c d e f k) ?_ ?_ 1100 (by omega)
  · intro i hi r
    show bd_O_placeOf_2 _ _ r (nI i) = _
    rw [st i (by omega), if_neg (by omega)]
  · intro r
    show bd_O_placeOf_2 _ _ r (nI _) = _
    rw [st _ hpl, if_pos rfl]
theorem placeM {a b c d e f k : Nat} (hp : P6 a b c d e f) (hk : k < 6) : f_M_placeOf (nI k) (on6 a b c d e f) = some (nI (pl6 a b c d e f k)) := by
  have hpl := pl6_lt a b c d e f k
  unfold f_M_placeOf
  refine it2_seq (fun i => if pl6 a b c d e f k < i then nI (pl6 a b c d e f k) else -6) (fun i => nI i) 6 ?_ ?_ 1100 (by decide)
  · intro i hi r
    show bd_M_placeOf_5 _ _ r _ (nI i) = _
    unfold bd_M_placeOf_5
    have he : (nI (l6 a b c d e f i) = nI k) ↔ i = pl6 a b c d e f k := by
      rw [nI_eq (by have := l6_lt hp i hi; omega) (by omega)]
      exact l6_pl hp hi hk
    rw [if_neg (show ¬ (6 : Int32) ≤ nI i from nI_ge hi (by decide)), kx_nI hi (by decide), nI_clamp (by omega), on6_l6 i hi, nI_1]
    by_cases q : i = pl6 a b c d e f k
    · rw [if_pos (he.mpr q)]
      show r _ _ = r _ _
      rw [if_pos (by omega), q]
    · rw [if_neg (fun z => q (he.mp z))]
      show r _ _ = r _ _
      by_cases z : pl6 a b c d e f k < i
      · rw [if_pos z, if_pos (by omega)]
      · rw [if_neg z, if_neg (by omega)]
  · intro r
    show bd_M_placeOf_5 _ _ r _ (nI 6) = _
    unfold bd_M_placeOf_5
    rw [if_pos (show (6 : Int32) ≤ nI 6 from by decide), if_pos hpl]
/-- two places that are changed -/
def sw (l : Nat → Nat) (i j : Nat) : Nat → Nat := fun k => if k = i then l j else if k = j then l i else l k
theorem P6.of_inj {l : Nat → Nat} (h1 : ∀ i, i < 6 → l i < 6) (h2 : ∀ i j, i < 6 → j < 6 → l i = l j → i = j) : P6 (l 0) (l 1) (l 2) (l 3) (l 4) (l 5) := by
  have h : ∀ i j, i < 6 → j < 6 → i ≠ j → l i ≠ l j := fun i j hi hj hne he => hne (h2 i j hi hj he)
  exact ⟨⟨h1 0 (by decide), h1 1 (by decide), h1 2 (by decide), h1 3 (by decide), h1 4 (by decide), h1 5 (by decide)⟩, h 1 0 (by decide) (by decide) (by decide), ⟨h 2 0 (by decide) (by decide) (by decide), h 2 1 (by decide) (by decide) (by decide)⟩, ⟨h 3 0 (by decide) (by decide) (by decide), h 3 1 (by decide) (by decide) (by decide), h 3 2 (by decide) (by decide) (by decide)⟩, ⟨h 4 0 (by decide) (by decide) (by decide), h 4 1 (by decide) (by decide) (by decide), h 4 2 (by decide) (by decide) (by decide), h 4 3 (by decide) (by decide) (by decide)⟩, ⟨h 5 0 (by decide) (by decide) (by decide), h 5 1 (by decide) (by decide) (by decide), h 5 2 (by decide) (by decide) (by decide), h 5 3 (by decide) (by decide) (by decide), h 5 4 (by decide) (by decide) (by decide)⟩⟩
theorem P6.inj {a b c d e f : Nat} (hp : P6 a b c d e f) (i j : Nat) (hi : i < 6) (hj : j < 6) (h : l6 a b c d e f i = l6 a b c d e f j) : i = j := by
  have h1 := (l6_pl hp hi (l6_lt hp j hj)).mp h
  have h2 := (l6_pl hp hj (l6_lt hp j hj)).mp rfl
  rw [h1, ← h2]
def chN (o i j : Nat) : Nat := (o ^^^ ((dg o i ^^^ dg o j) * 8 ^ i)) ^^^ ((dg o i ^^^ dg o j) * 8 ^ j)
theorem dg_lt (o i : Nat) : dg o i < 8 := Nat.mod_lt _ (by decide)
theorem shl_nI {d : Nat} (hd : d < 8) : ∀ i, i < 6 → nI d <<< ((3 * nI i : Int32) &&& 31) = nI (d * 8 ^ i) := by
  have key : ∀ i, (((3 * nI i : Int32) &&& 31).toBitVec.smod 32).toNat = 3 * i → i < 6 → nI d <<< ((3 * nI i : Int32) &&& 31) = nI (d * 8 ^ i) := by
    intro i hi h6
    have h8 : (2 : Nat) ^ (3 * i) = 8 ^ i := by rw [Nat.pow_mul]
    have hle : (8 : Nat) ^ i ≤ 8 ^ 5 := Nat.pow_le_pow_right (by decide) (by omega)
    have hm : d * 8 ^ i ≤ 7 * 8 ^ 5 := Nat.mul_le_mul (by omega) hle
    have hb : (7 : Nat) * 8 ^ 5 < 2 ^ 32 := by decide
    rw [pk_shlN _ (3 * i) hi (by rw [h8]; exact Nat.lt_of_le_of_lt hm hb), h8]
  exact lt6 (key 0 (by decide) (by decide)) (key 1 (by decide) (by decide)) (key 2 (by decide) (by decide)) (key 3 (by decide) (by decide)) (key 4 (by decide) (by decide)) (key 5 (by decide) (by decide))
theorem shr_nI {o : Nat} (ho : o < 262144) : ∀ i, i < 6 → nI o >>> ((3 * nI i : Int32) &&& 31) = nI (o / 8 ^ i) := by
  have key : ∀ i, (((3 * nI i : Int32) &&& 31).toBitVec.smod 32).toNat = 3 * i → nI o >>> ((3 * nI i : Int32) &&& 31) = nI (o / 8 ^ i) := by
    intro i hi
    rw [pk_shrN (by omega) _ (3 * i) hi, Nat.pow_mul]
  exact lt6 (key 0 (by decide)) (key 1 (by decide)) (key 2 (by decide)) (key 3 (by decide)) (key 4 (by decide)) (key 5 (by decide))
theorem diff_nI {o i j : Nat} (ho : o < 262144) (hi : i < 6) (hj : j < 6) : ((nI o >>> ((3 * nI i : Int32) &&& 31)) ^^^ (nI o >>> ((3 * nI j : Int32) &&& 31))) &&& 7 = nI (dg o i ^^^ dg o j) := by
  unfold dg
  rw [shr_nI ho i hi, shr_nI ho j hj, fb_xorI, show (7 : Int32) = nI (2 ^ 3 - 1) from rfl, fa_mask, Nat.xor_mod_two_pow, show (2 : Nat) ^ 3 = 8 from rfl]
theorem changed_nI {o i j : Nat} (ho : o < 262144) (hi : i < 6) (hj : j < 6) : f_O_changed (nI o) (nI i) (nI j) = some (nI (chN o i j)) := by
  have hd : dg o i ^^^ dg o j < 8 := Nat.xor_lt_two_pow (n := 3) (dg_lt o i) (dg_lt o j)
  unfold f_O_changed
  rw [diff_nI ho hi hj, shl_nI hd i hi, shl_nI hd j hj, fb_xorI, fb_xorI]
  rfl
theorem dg_xor (x y k : Nat) : dg (x ^^^ y) k = dg x k ^^^ dg y k := by
  unfold dg
  have h8 : (8 : Nat) ^ k = 2 ^ (3 * k) := by rw [Nat.pow_mul]
  rw [h8, ← Nat.shiftRight_eq_div_pow, ← Nat.shiftRight_eq_div_pow, ← Nat.shiftRight_eq_div_pow, Nat.shiftRight_xor_distrib, show (8 : Nat) = 2 ^ 3 from rfl, Nat.xor_mod_two_pow]
theorem dg_mul_chk : ((List.range 8).all fun d => (List.range 6).all fun i => (List.range 6).all fun k => dg (d * 8 ^ i) k == if k = i then d else 0) = true := by decide +kernel
theorem dg_mul {d i k : Nat} (hd : d < 8) (hi : i < 6) (hk : k < 6) : dg (d * 8 ^ i) k = if k = i then d else 0 := beq_iff_eq.mp (all_lt (all_lt (all_lt dg_mul_chk hd) hi) hk)
theorem dg_all {o : Nat} (ho : o < 262144) : o = pk6 (dg o 0) (dg o 1) (dg o 2) (dg o 3) (dg o 4) (dg o 5) := by
  unfold pk6 dg
  omega
theorem chN_dg {o i j k : Nat} (hi : i < 6) (hj : j < 6) (hk : k < 6) : dg (chN o i j) k = sw (dg o) i j k := by
  have hd : dg o i ^^^ dg o j < 8 := Nat.xor_lt_two_pow (n := 3) (dg_lt o i) (dg_lt o j)
  unfold chN
  rw [dg_xor, dg_xor, dg_mul hd hi hk, dg_mul hd hj hk]
  unfold sw
  by_cases q : k = i
  · subst q
    by_cases z : k = j
    · subst z
      rw [if_pos rfl, if_pos rfl, Nat.xor_self, Nat.xor_zero, Nat.xor_zero]
    · rw [if_pos rfl, if_neg z, if_pos rfl, Nat.xor_zero, ← Nat.xor_assoc, Nat.xor_self, Nat.zero_xor]
  · by_cases z : k = j
    · subst z
      rw [if_neg q, if_pos rfl, if_neg q, if_pos rfl, Nat.xor_zero, Nat.xor_comm (dg o i), ← Nat.xor_assoc, Nat.xor_self, Nat.zero_xor]
    · rw [if_neg q, if_neg z, if_neg q, if_neg z, Nat.xor_zero, Nat.xor_zero]
theorem chN_lt {o i j : Nat} (ho : o < 262144) (hi : i < 6) (hj : j < 6) : chN o i j < 262144 := by
  have hd : dg o i ^^^ dg o j < 8 := Nat.xor_lt_two_pow (n := 3) (dg_lt o i) (dg_lt o j)
  have hm : ∀ i, i < 6 → (dg o i ^^^ dg o j) < 8 → ∀ d, d < 8 → d * 8 ^ i < 2 ^ 18 := by
    intro i hi _ d hd
    have hle : (8 : Nat) ^ i ≤ 8 ^ 5 := Nat.pow_le_pow_right (by decide) (by omega)
    exact Nat.lt_of_le_of_lt (Nat.mul_le_mul (show d ≤ 7 by omega) hle) (by decide)
  have hx : ∀ i, i < 6 → (dg o i ^^^ dg o j) < 8 := fun i _ => Nat.xor_lt_two_pow (n := 3) (dg_lt o i) (dg_lt o j)
  unfold chN
  exact Nat.xor_lt_two_pow (n := 18) (Nat.xor_lt_two_pow (n := 18) ho (hm i hi hd _ hd)) (hm j hj (hx j hj) _ hd)
theorem sw_inj {l : Nat → Nat} {i j : Nat} (hi : i < 6) (hj : j < 6) (h2 : ∀ i j, i < 6 → j < 6 → l i = l j → i = j) (x y : Nat) (hx : x < 6) (hy : y < 6) (h : sw l i j x = sw l i j y) : x = y := by
  unfold sw at h
  by_cases a1 : x = i
  · rw [if_pos a1] at h
    by_cases b1 : y = i
    · omega
    · rw [if_neg b1] at h
      by_cases b2 : y = j
      · rw [if_pos b2] at h
        have := h2 j i hj hi h
        omega
      · rw [if_neg b2] at h
        have := h2 j y hj hy h
        omega
  · rw [if_neg a1] at h
    by_cases a2 : x = j
    · rw [if_pos a2] at h
      by_cases b1 : y = i
      · rw [if_pos b1] at h
        have := h2 i j hi hj h
        omega
      · rw [if_neg b1] at h
        by_cases b2 : y = j
        · omega
        · rw [if_neg b2] at h
          have := h2 i y hi hy h
          omega
    · rw [if_neg a2] at h
      by_cases b1 : y = i
      · rw [if_pos b1] at h
        have := h2 x j hx hj h
        omega
      · rw [if_neg b1] at h
        by_cases b2 : y = j
        · rw [if_pos b2] at h
          have := h2 x i hx hi h
          omega
        · rw [if_neg b2] at h
          exact h2 x y hx hy h
theorem sw_lt {l : Nat → Nat} {i j : Nat} (hi : i < 6) (hj : j < 6) (h1 : ∀ i, i < 6 → l i < 6) (x : Nat) (hx : x < 6) : sw l i j x < 6 := by
  unfold sw
  split
  · exact h1 j hj
  · split
    · exact h1 i hi
    · exact h1 x hx
theorem swap6 {a b c d e f i j : Nat} (hp : P6 a b c d e f) (hi : i < 6) (hj : j < 6) : ∃ a' b' c' d' e' f', P6 a' b' c' d' e' f' ∧ f_O_changed (or6 a b c d e f) (nI i) (nI j) = some (or6 a' b' c' d' e' f') ∧ upd (upd (on6 a b c d e f) i (on6 a b c d e f j)) j (on6 a b c d e f i) = on6 a' b' c' d' e' f' ∧ ∀ k, k < 6 → l6 a' b' c' d' e' f' k = sw (l6 a b c d e f) i j k := by
  refine ⟨_, _, _, _, _, _, P6.of_inj (l := sw (l6 a b c d e f) i j) (fun x hx => sw_lt hi hj (l6_lt hp) x hx) (fun x y hx hy h => sw_inj hi hj hp.inj x y hx hy h), ?_, ?_, ?_⟩
  · unfold or6
    have hk : ∀ k, k < 6 → dg (chN (pk6 a b c d e f) i j) k = sw (l6 a b c d e f) i j k := by
      intro k hk
      rw [chN_dg hi hj hk]
      unfold sw
      rw [dg_l6 hp i hi, dg_l6 hp j hj, dg_l6 hp k hk]
    rw [changed_nI (pk6_lt hp) hi hj, dg_all (chN_lt (pk6_lt hp) hi hj), hk 0 (by decide), hk 1 (by decide), hk 2 (by decide), hk 3 (by decide), hk 4 (by decide), hk 5 (by decide)]
  · have hk : ∀ k, k < 6 → l6 (sw (l6 a b c d e f) i j 0) (sw (l6 a b c d e f) i j 1) (sw (l6 a b c d e f) i j 2) (sw (l6 a b c d e f) i j 3) (sw (l6 a b c d e f) i j 4) (sw (l6 a b c d e f) i j 5) k = sw (l6 a b c d e f) i j k := lt6 rfl rfl rfl rfl rfl rfl
    funext k
    by_cases q : k < 6
    · rw [on6_l6 k q, hk k q]
      unfold sw
      by_cases z : k = j
      · subst z
        rw [upd_at, on6_l6 i hi]
        by_cases y : k = i
        · subst y; rw [if_pos rfl]
        · rw [if_neg y, if_pos rfl]
      · rw [upd_ne z]
        by_cases y : k = i
        · subst y; rw [upd_at, on6_l6 j hj, if_pos rfl]
        · rw [upd_ne y, on6_l6 k q, if_neg y, if_neg z]
    · rw [upd_ne (by omega), upd_ne (by omega), on6_Z k (by omega), on6_Z k (by omega)]
  · exact lt6 rfl rfl rfl rfl rfl rfl
