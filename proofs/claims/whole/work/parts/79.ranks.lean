/-! orders by number: rank and row -/
def inv1 (x y : Nat) : Nat := if y < x then 1 else 0
/-- the number of an order -/
def rk (a b c d e f : Nat) : Nat := 120 * (inv1 a b + inv1 a c + inv1 a d + inv1 a e + inv1 a f) + 24 * (inv1 b c + inv1 b d + inv1 b e + inv1 b f) + 6 * (inv1 c d + inv1 c e + inv1 c f) + 2 * (inv1 d e + inv1 d f) + inv1 e f
set_option maxRecDepth 100000 in
theorem rkC_chk : chk6 (fun a b c d e f => decide (f_O_rankOf (or6 a b c d e f) = some (nI (rk a b c d e f)))) = true := by decide +kernel
set_option maxRecDepth 100000 in
theorem rkM_chk : chk6 (fun a b c d e f => decide (f_M_rankOfDigits (on6 a b c d e f) = some (nI (rk a b c d e f))) && decide (rk a b c d e f < 720)) = true := by decide +kernel
theorem rkC {a b c d e f : Nat} (hp : P6 a b c d e f) : f_O_rankOf (or6 a b c d e f) = some (nI (rk a b c d e f)) := of_decide_eq_true (chk6_use rkC_chk hp)
theorem rkM {a b c d e f : Nat} (hp : P6 a b c d e f) : f_M_rankOfDigits (on6 a b c d e f) = some (nI (rk a b c d e f)) := of_decide_eq_true ((Bool.and_eq_true _ _).mp (chk6_use rkM_chk hp)).1
theorem rk_lt {a b c d e f : Nat} (hp : P6 a b c d e f) : rk a b c d e f < 720 := of_decide_eq_true ((Bool.and_eq_true _ _).mp (chk6_use rkM_chk hp)).2
theorem op_rank (p : Int32) {dd : Nat → Int32} (hz : Zn 6 dd) : ∃ r D, f_C_rank p = some r ∧ f_M_rank p dd = some (r, D) ∧ Zn 6 D := by
  unfold f_C_rank f_M_rank
  rcases readRow_cases p hz with ⟨a, b, c, d, e, f, hp, h1, h2⟩ | ⟨h1, D, hD, h2⟩
  · rw [bind_some' h1, bind_some' h2, if_neg (or6_ne hp), n10, bind_some' (rkC hp), bind_some' (rkM hp)]
    exact ⟨_, _, rfl, rfl, on6_Z⟩
  · rw [bind_some' h1, bind_some' h2, if_pos rfl, y00]
    exact ⟨_, _, rfl, rfl, hD⟩
def wN (i : Nat) : Nat := ([120, 24, 6, 2, 1, 1] : List Nat).getD i 1
/-- the k-th cup that is left -/
def fgN (m k : Nat) : Nat := ((List.range 6).filter fun j => m.testBit j).getD k 7
def stN (r : Nat) : Nat → Nat × Nat
  | 0 => (63, r)
  | i + 1 => ((stN r i).1 - 2 ^ fgN (stN r i).1 ((stN r i).2 / wN i), (stN r i).2 % wN i)
/-- the cup on place i in the order of this number -/
def un (r i : Nat) : Nat := fgN (stN r i).1 ((stN r i).2 / wN i)
theorem fig_chk : ((List.range 64).all fun m => (List.range 6).all fun k => !(decide (fgN m k < 6)) || (decide (f_M_figureOf (nI m) (nI k) = some (nI (fgN m k))) && decide (f_O_nthCup (nI m) (nI k) = some (nI (fgN m k))) && decide ((nI m &&& (((1 : Int32) <<< (nI (fgN m k) &&& 31)) ^^^ (-1))) = nI (m - 2 ^ fgN m k)))) = true := by decide +kernel
theorem fig_at {m k : Nat} (hm : m < 64) (hk : k < 6) (h : fgN m k < 6) : f_M_figureOf (nI m) (nI k) = some (nI (fgN m k)) ∧ f_O_nthCup (nI m) (nI k) = some (nI (fgN m k)) ∧ (nI m &&& (((1 : Int32) <<< (nI (fgN m k) &&& 31)) ^^^ (-1))) = nI (m - 2 ^ fgN m k) := by
  have h1 := all_lt (all_lt fig_chk hm) hk
  rw [decide_eq_true h, Bool.not_true, Bool.false_or, Bool.and_eq_true, Bool.and_eq_true] at h1
  exact ⟨of_decide_eq_true h1.1.1, of_decide_eq_true h1.1.2, of_decide_eq_true h1.2⟩
set_option maxRecDepth 100000 in
theorem un_chk : ((List.range 720).all fun r => ((List.range 6).all fun i => decide ((stN r i).1 < 64) && decide ((stN r i).2 < 720) && decide ((stN r i).2 / wN i < 6) && decide (un r i < 6)) && decide (un r 0 ||| un r 1 * 8 ||| un r 2 * 64 ||| un r 3 * 512 ||| un r 4 * 4096 ||| un r 5 * 32768 = pk6 (un r 0) (un r 1) (un r 2) (un r 3) (un r 4) (un r 5)) && decide (rk (un r 0) (un r 1) (un r 2) (un r 3) (un r 4) (un r 5) = r)) = true := by decide +kernel
set_option maxRecDepth 100000 in
theorem un_chk2 : chk6 (fun a b c d e f => (List.range 6).all fun i => decide (un (rk a b c d e f) i = l6 a b c d e f i)) = true := by decide +kernel
theorem un_at {r i : Nat} (hr : r < 720) (hi : i < 6) : (stN r i).1 < 64 ∧ (stN r i).2 < 720 ∧ (stN r i).2 / wN i < 6 ∧ un r i < 6 := by
  have h := ((Bool.and_eq_true _ _).mp ((Bool.and_eq_true _ _).mp (all_lt un_chk hr)).1).1
  have h2 := all_lt h hi
  rw [Bool.and_eq_true, Bool.and_eq_true, Bool.and_eq_true] at h2
  exact ⟨of_decide_eq_true h2.1.1.1, of_decide_eq_true h2.1.1.2, of_decide_eq_true h2.1.2, of_decide_eq_true h2.2⟩
theorem un_rk {r : Nat} (hr : r < 720) : rk (un r 0) (un r 1) (un r 2) (un r 3) (un r 4) (un r 5) = r := of_decide_eq_true ((Bool.and_eq_true _ _).mp (all_lt un_chk hr)).2
theorem un_pk {r : Nat} (hr : r < 720) : un r 0 ||| un r 1 * 8 ||| un r 2 * 64 ||| un r 3 * 512 ||| un r 4 * 4096 ||| un r 5 * 32768 = pk6 (un r 0) (un r 1) (un r 2) (un r 3) (un r 4) (un r 5) := of_decide_eq_true ((Bool.and_eq_true _ _).mp ((Bool.and_eq_true _ _).mp (all_lt un_chk hr)).1).2
theorem rk_un {a b c d e f i : Nat} (hp : P6 a b c d e f) (hi : i < 6) : un (rk a b c d e f) i = l6 a b c d e f i := of_decide_eq_true (all_lt (chk6_use un_chk2 hp) hi)
set_option maxRecDepth 100000 in
theorem unP_chk : ((List.range 720).all fun r => (List.range 6).all fun i => (List.range 6).all fun j => (i == j) || !(un r i == un r j)) = true := by decide +kernel
theorem unP {r : Nat} (hr : r < 720) : P6 (un r 0) (un r 1) (un r 2) (un r 3) (un r 4) (un r 5) := by
  refine P6.of_inj (l := un r) (fun i hi => (un_at hr hi).2.2.2) (fun i j hi hj h => ?_)
  have h1 := all_lt (all_lt (all_lt unP_chk hr) hi) hj
  rw [h, beq_self_eq_true, Bool.not_true, Bool.or_false] at h1
  exact beq_iff_eq.mp h1
/-- the order of this number: class and reference -/
def ord (r : Nat) : Int32 := or6 (un r 0) (un r 1) (un r 2) (un r 3) (un r 4) (un r 5)
def dgs (r : Nat) : Nat → Int32 := on6 (un r 0) (un r 1) (un r 2) (un r 3) (un r 4) (un r 5)
theorem dgs_at {r : Nat} : ∀ i, i < 6 → dgs r i = nI (un r i) := lt6 rfl rfl rfl rfl rfl rfl
theorem ord_rk {a b c d e f : Nat} (hp : P6 a b c d e f) : ord (rk a b c d e f) = or6 a b c d e f := by
  unfold ord
  rw [rk_un hp (show 0 < 6 by decide), rk_un hp (show 1 < 6 by decide), rk_un hp (show 2 < 6 by decide), rk_un hp (show 3 < 6 by decide), rk_un hp (show 4 < 6 by decide), rk_un hp (show 5 < 6 by decide)]
  rfl
theorem dgs_rk {a b c d e f : Nat} (hp : P6 a b c d e f) : dgs (rk a b c d e f) = on6 a b c d e f := by
  unfold dgs
  rw [rk_un hp (show 0 < 6 by decide), rk_un hp (show 1 < 6 by decide), rk_un hp (show 2 < 6 by decide), rk_un hp (show 3 < 6 by decide), rk_un hp (show 4 < 6 by decide), rk_un hp (show 5 < 6 by decide)]
  rfl
theorem ord_rank {r : Nat} (hr : r < 720) : f_O_rankOf (ord r) = some (nI r) := by
  unfold ord; rw [rkC (unP hr), un_rk hr]
theorem dgs_rank {r : Nat} (hr : r < 720) : f_M_rankOfDigits (dgs r) = some (nI r) := by
  unfold dgs; rw [rkM (unP hr), un_rk hr]
theorem wN_pos : ∀ i, i < 6 → 0 < wN i ∧ wN i < 721 := lt6 (by decide) (by decide) (by decide) (by decide) (by decide) (by decide)
theorem orders_w : ∀ i, i < 6 → f_M_ordersOf (5 - nI i) = some (nI (wN i)) := lt6 (by decide +kernel) (by decide +kernel) (by decide +kernel) (by decide +kernel) (by decide +kernel) (by decide +kernel)
theorem kz_nI {α : Type} {n : Nat} {k : Option α} (h : 0 < n) (h2 : n < 2 ^ 31) : kz (nI n) k = k := by
  unfold kz
  rw [if_neg (nI_ne0 h h2)]
def orN (r : Nat) : Nat → Nat
  | 0 => 0
  | i + 1 => orN r i ||| un r i * 8 ^ i
/-- how many of the cups that are left are less than a place's own: the loop's states, from the last place on -/
def lsN (r : Nat) : Nat → Nat × Nat
  | 0 => (0, r)
  | i + 1 => ((lsN r i).1 ||| (lsN r i).2 % (i + 1) * 8 ^ (5 - i), (lsN r i).2 / (i + 1))
set_option maxRecDepth 100000 in
theorem ls_chk : ((List.range 720).all fun r => ((List.range 6).all fun i => decide ((lsN r i).2 < 720) && decide (dg (lsN r 6).1 i = (stN r i).2 / wN i)) && decide ((lsN r 6).1 < 262144)) = true := by decide +kernel
theorem ls_lt {r : Nat} (hr : r < 720) : (lsN r 6).1 < 262144 := of_decide_eq_true ((Bool.and_eq_true _ _).mp (all_lt ls_chk hr)).2
theorem ls_at {r i : Nat} (hr : r < 720) (hi : i < 6) : (lsN r i).2 < 720 ∧ dg (lsN r 6).1 i = (stN r i).2 / wN i := by
  have h := all_lt ((Bool.and_eq_true _ _).mp (all_lt ls_chk hr)).1 hi
  rw [Bool.and_eq_true] at h
  exact ⟨of_decide_eq_true h.1, of_decide_eq_true h.2⟩
/-- the places, from the last one down -/
def pd (i : Nat) : Int32 := ([5, 4, 3, 2, 1, 0, -1] : List Int32).getD i 0
theorem pd_neg : ∀ i, i < 6 → ¬ pd i < 0 := lt6 (by decide) (by decide) (by decide) (by decide) (by decide) (by decide)
theorem pd_left : ∀ i, i < 6 → 6 - pd i = nI (i + 1) := lt6 (by decide) (by decide) (by decide) (by decide) (by decide) (by decide)
theorem pd_next : ∀ i, i < 6 → pd i + (-1) = pd (i + 1) := lt6 (by decide) (by decide) (by decide) (by decide) (by decide) (by decide)
theorem pd_at : ∀ i, i < 6 → pd i = nI (5 - i) := lt6 (by decide) (by decide) (by decide) (by decide) (by decide) (by decide)
theorem lesser_nI {r : Nat} (hr : r < 720) : f_O_lesserCupsLeft (nI r) = some (nI (lsN r 6).1) := by
  unfold f_O_lesserCupsLeft
  refine it3_seq (F := bd_O_lesserCupsLeft_6) (fun i => nI (lsN r i).1) (fun i => nI (lsN r i).2) (fun i => pd i) 6 ?_ ?_ 1100 (by decide)
  · intro i hi R
    obtain ⟨h1, -⟩ := ls_at hr hi
    have h2 : (lsN r i).2 % (i + 1) < i + 1 := Nat.mod_lt _ (Nat.succ_pos i)
    show bd_O_lesserCupsLeft_6 R (nI (lsN r i).1) (nI (lsN r i).2) (pd i) = R (nI ((lsN r i).1 ||| (lsN r i).2 % (i + 1) * 8 ^ (5 - i))) (nI ((lsN r i).2 / (i + 1))) (pd (i + 1))
    unfold bd_O_lesserCupsLeft_6
    rw [if_neg (pd_neg i hi), pd_left i hi, kz_nI (by omega) (by omega), kz_nI (by omega) (by omega), pk_rem (show (lsN r i).2 < 2 ^ 31 by omega) (show 0 < i + 1 by omega) (show i + 1 < 2 ^ 31 by omega), pk_div (show (lsN r i).2 < 2 ^ 31 by omega) (show 0 < i + 1 by omega) (show i + 1 < 2 ^ 31 by omega), pd_next i hi, pd_at i hi, shl_nI (show (lsN r i).2 % (i + 1) < 8 by omega) (5 - i) (by omega), fa_or]
  · intro R
    show bd_O_lesserCupsLeft_6 R (nI (lsN r 6).1) _ (pd 6) = _
    unfold bd_O_lesserCupsLeft_6
    rw [if_pos (show pd 6 < 0 by decide)]
theorem ofRank_ord {r : Nat} (hr : r < 720) : f_O_ofRank (nI r) = some (ord r) := by
  unfold f_O_ofRank
  rw [bind_some' (lesser_nI hr)]
  have e : ord r = nI (orN r 6) := by
    unfold ord or6
    rw [← un_pk hr]
    show _ = nI ((((((0 ||| un r 0 * 1) ||| un r 1 * 8) ||| un r 2 * 64) ||| un r 3 * 512) ||| un r 4 * 4096) ||| un r 5 * 32768)
    rw [Nat.zero_or, Nat.mul_one]
  rw [e]
  refine it3_seq (F := bd_O_ofRank_13 (nI (lsN r 6).1)) (fun i => nI (orN r i)) (fun i => nI (stN r i).1) (fun i => nI i) 6 ?_ ?_ 1100 (by decide)
  · intro i hi R
    obtain ⟨h1, h2, h3, h4⟩ := un_at hr hi
    obtain ⟨g1, g2, g3⟩ := fig_at h1 h3 h4
    show bd_O_ofRank_13 (nI (lsN r 6).1) R (nI (orN r i)) (nI (stN r i).1) (nI i) = R (nI (orN r i ||| un r i * 8 ^ i)) (nI ((stN r i).1 - 2 ^ un r i)) (nI (i + 1))
    unfold bd_O_ofRank_13
    rw [if_neg (show ¬ (6 : Int32) ≤ nI i from nI_ge (b := 6) hi (by decide)), bind_some' (cupOn_nI (ls_lt hr) i hi), (ls_at hr hi).2, bind_some' g2, g3, nI_1]
    rw [show nI (fgN (stN r i).1 ((stN r i).2 / wN i)) <<< ((3 * nI i) &&& 31) = nI (un r i * 8 ^ i) from shl_nI (by show un r i < 8; omega) i hi, fa_or]
    rfl
  · intro R
    show bd_O_ofRank_13 (nI (lsN r 6).1) R (nI (orN r 6)) _ (nI 6) = _
    unfold bd_O_ofRank_13
    rw [if_pos (show (6 : Int32) ≤ nI 6 by decide)]
def dgu (r : Nat) (dd : Nat → Int32) : Nat → Nat → Int32
  | 0 => dd
  | i + 1 => upd (dgu r dd i) i (nI (un r i))
theorem layDigits_dgs {r : Nat} (hr : r < 720) {dd : Nat → Int32} (hz : Zn 6 dd) : f_M_layDigits (nI r) dd = some (dgs r) := by
  unfold f_M_layDigits
  have e : dgs r = dgu r dd 6 := by
    have h := upd6 (dgs r) dd
    rw [fill_eq (show Zn 6 (dgs r) from on6_Z) hz] at h
    exact h.symm
  rw [e]
  refine it4_seq (F := bd_M_layDigits_8) (fun i => nI (stN r i).1) (fun i => nI (stN r i).2) (fun i => nI i) (fun i => dgu r dd i) 6 ?_ ?_ 1100 (by decide)
  · intro i hi R
    obtain ⟨h1, h2, h3, h4⟩ := un_at hr hi
    obtain ⟨w1, w2⟩ := wN_pos i hi
    obtain ⟨g1, g2, g3⟩ := fig_at h1 h3 h4
    show bd_M_layDigits_8 R (nI (stN r i).1) (nI (stN r i).2) (nI i) (dgu r dd i) = R (nI ((stN r i).1 - 2 ^ un r i)) (nI ((stN r i).2 % wN i)) (nI (i + 1)) (upd (dgu r dd i) i (nI (un r i)))
    unfold bd_M_layDigits_8
    rw [if_neg (show ¬ (6 : Int32) ≤ nI i from nI_ge (b := 6) hi (by decide)), bind_some' (orders_w i hi), kz_nI w1 (by omega), pk_div (by omega) w1 (by omega), bind_some' g1, kx_nI hi (by decide), kx_nI hi (by decide), kz_nI w1 (by omega), nI_clamp (by omega), upd_at, g3, nI_1]
    have e2 : nI (stN r i).2 - nI ((stN r i).2 / wN i) * nI (wN i) = nI ((stN r i).2 % wN i) := by
      rw [← pk_div (show (stN r i).2 < 2 ^ 31 by omega) w1 (show wN i < 2 ^ 31 by omega)]
      exact pk_rem (by omega) w1 (by omega)
    rw [e2]
    rfl
  · intro R
    show bd_M_layDigits_8 R _ _ (nI 6) (dgu r dd 6) = _
    unfold bd_M_layDigits_8
    rw [if_pos (show (6 : Int32) ≤ nI 6 by decide)]
theorem op_row (p : Int32) {dd : Nat → Int32} (hz : Zn 6 dd) : ∃ r D, f_C_row p = some r ∧ f_M_row p dd = some (r, D) ∧ Zn 6 D := by
  have i1 := inL_eq p (lo := 0) (hi := 719) (by decide) (by decide)
  unfold f_C_row f_M_row
  rcases within_cases p (lo := 0) (hi := 719) (by decide) (by decide) with ⟨n, -, hn, rfl, w⟩ | w
  · rw [w] at i1
    rw [bind_some' (show f_C_isWithin (nI n) 0 719 = some 1 from w), bind_some' (show f_M_in (Int32.toInt64 (nI n)) 0 719 = some 1 from i1), n10, n10, bind_some' (ofRank_ord (show n < 720 by omega)), bind_some' (layDigits_dgs (show n < 720 by omega) hz)]
    obtain ⟨r, t1, t2⟩ := trow (unP (show n < 720 by omega))
    refine ⟨r, dgs n, by rw [bind_some' (show f_O_toRow (ord n) = some r from t1)], ?_, on6_Z⟩
    have h3 : it2 (bd_M_row_24 (dgs n)) 1100 0 0 = (it2 (bd_M_rowNow_4 (dgs n)) 1100 0 0).bind fun x => some (x, dgs n) := rfl
    rw [h3, show it2 (bd_M_rowNow_4 (dgs n)) 1100 0 0 = some r from t2]
    rfl
  · rw [w] at i1
    rw [bind_some' (show f_C_isWithin p 0 719 = some 0 from w), bind_some' (show f_M_in (Int32.toInt64 p) 0 719 = some 0 from i1), y00, y00]
    exact ⟨_, _, rfl, rfl, hz⟩
