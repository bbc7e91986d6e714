/-! heaps from which squares are taken: class and reference -/
/-- a bit of a long -/
def lb (x : Int64) (r : Nat) : Bool := x.toBitVec.getLsbD r
theorem smod64 {r : Nat} (h : r < 64) : ((lN r).toBitVec.smod 64).toNat = r := by
  have : ∀ j : Fin 64, ((lN j.val).toBitVec.smod 64).toNat = j.val := by decide +kernel
  exact this ⟨r, h⟩
theorem and1_64 (y : BitVec 64) : y &&& 1#64 = 1#64 ↔ y.getLsbD 0 = true := by
  constructor
  · intro h
    have h2 : (y &&& 1#64).getLsbD 0 = (1#64).getLsbD 0 := by rw [h]
    rw [BitVec.getLsbD_and] at h2
    simpa using h2
  · intro h
    apply BitVec.eq_of_getLsbD_eq
    intro i hi
    rw [BitVec.getLsbD_and]
    by_cases z : i = 0
    · subst z; rw [h]; rfl
    · have h3 : (1#64).getLsbD i = false := by
        have : ∀ j : Fin 64, j.val ≠ 0 → (1#64).getLsbD j.val = false := by decide
        exact this ⟨i, hi⟩ z
      rw [h3, Bool.and_false]
theorem lb_get (x : Int64) {r : Nat} (h : r < 64) : (lg_cmp ((x >>> lN r) &&& 1) 1 = 0) ↔ lb x r = true := by
  have e : ((x >>> lN r) &&& 1).toBitVec = (x.toBitVec.sshiftRight r) &&& 1#64 := by
    show (x.toBitVec.sshiftRight' ((lN r).toBitVec.smod 64)) &&& 1#64 = _
    unfold BitVec.sshiftRight'
    rw [smod64 h]
  have e2 : ((x >>> lN r) &&& 1) = 1 ↔ lb x r = true := by
    rw [← Int64.toBitVec_inj, e, show (1 : Int64).toBitVec = 1#64 from rfl, and1_64, BitVec.getLsbD_sshiftRight]
    unfold lb
    simp [h]
  rw [← e2]
  unfold lg_cmp
  constructor
  · intro z
    by_cases y : ((x >>> lN r) &&& 1) > 1
    · rw [if_pos y] at z; exact absurd z (by decide)
    · rw [if_neg y] at z
      by_cases w : ((x >>> lN r) &&& 1) = 1
      · exact w
      · rw [if_neg w] at z; exact absurd z (by decide)
  · intro z
    rw [z, if_neg (by decide), if_pos rfl]
theorem lb_set (x : Int64) {r q : Nat} (h : r < 64) (hq : q < 64) : lb (x ||| ((1 : Int64) <<< lN r)) q = (lb x q || decide (q = r)) := by
  have e : (x ||| ((1 : Int64) <<< lN r)).toBitVec = x.toBitVec ||| ((1#64) <<< r) := by
    show x.toBitVec ||| ((1#64) <<< ((lN r).toBitVec.smod 64)) = _
    rw [BitVec.shiftLeft_eq', smod64 h]
  unfold lb
  rw [e, BitVec.getLsbD_or]
  have h3 : ((1#64) <<< r).getLsbD q = decide (q = r) := by
    have : ∀ j k : Fin 64, ((1#64) <<< j.val).getLsbD k.val = decide (k.val = j.val) := by decide +kernel
    exact this ⟨r, h⟩ ⟨q, hq⟩
  rw [h3]
theorem mask63 {m : Nat} : (Int32.toInt64 (nI m &&& 63) &&& 63) = lN (m % 64) := by
  rw [show nI m &&& 63 = nI (m % 64) from fa_mask m 6]
  have : ∀ j : Fin 64, Int32.toInt64 (nI j.val) &&& 63 = lN j.val := by decide +kernel
  exact this ⟨m % 64, Nat.mod_lt _ (by decide)⟩
theorem shr6 {m : Nat} (h : m < 1000) : nI m >>> (6 &&& 31) = nI (m / 64) := by
  have : ∀ j : Fin 1000, nI j.val >>> (6 &&& 31) = nI (j.val / 64) := by decide +kernel
  exact this ⟨m, h⟩
/-- won from there, as the class keeps it -/
def tb (v : Nat → Int64) (m : Nat) : Bool := lb (v (m / 64)) (m % 64)
theorem tb_set {v : Nat → Int64} {m : Nat} (k : Nat) : tb (vp_updL v (m / 64) (v (m / 64) ||| ((1 : Int64) <<< lN (m % 64)))) k = (tb v k || decide (k = m)) := by
  unfold tb
  by_cases h : k / 64 = m / 64
  · rw [h, pk_uLs, lb_set _ (Nat.mod_lt _ (by decide)) (Nat.mod_lt _ (by decide))]
    congr 1
    apply decide_eq_decide.mpr
    omega
  · rw [pk_uLn h, decide_eq_false (by intro z; exact h (by rw [z])), Bool.or_false]
theorem isWon_tb {v : Nat → Int64} {m : Nat} (h : m < 1000) : f_G_isWonFrom (nI m) v = some (if tb v m = true then 1 else 0) := by
  unfold f_G_isWonFrom
  rw [bind_some' (show f_C_isWithin (nI m) 0 999 = some 1 by
    have := within_nI (s := m) (lo := 0) (hi := 999) (by omega) (by decide) (by decide)
    rw [if_pos ⟨by omega, by omega⟩] at this; exact this), n10, shr6 h, kx_nI (by omega) (by decide), nI_clamp (by omega), mask63]
  by_cases z : tb v m = true
  · rw [if_pos ((lb_get _ (Nat.mod_lt _ (by decide))).mpr z), if_pos z]
  · rw [if_neg (fun y => z ((lb_get _ (Nat.mod_lt _ (by decide))).mp y)), if_neg z]
/-- won from there -/
def exb (n : Nat) (w : Nat → Bool) : Bool := (List.range 31).any fun j => decide ((j + 1) * (j + 1) ≤ n) && !(w (n - (j + 1) * (j + 1)))
def wf : Nat → Nat → Bool
  | 0 => fun _ => false
  | n + 1 => fun m => if m = n then exb n (wf n) else wf n m
def won (m : Nat) : Bool := wf (m + 1) m
theorem wf_won {m : Nat} : ∀ {n}, m < n → wf n m = won m := by
  intro n
  induction n with
  | zero => intro h; omega
  | succ n ih =>
    intro h
    by_cases z : m = n
    · subst z; rfl
    · show (if m = n then exb n (wf n) else wf n m) = _
      rw [if_neg z]; exact ih (by omega)
theorem exb_iff {n : Nat} {w : Nat → Bool} : exb n w = true ↔ ∃ k, 1 ≤ k ∧ k ≤ 31 ∧ k * k ≤ n ∧ w (n - k * k) = false := by
  unfold exb
  rw [List.any_eq_true]
  constructor
  · rintro ⟨j, hj, h⟩
    rw [Bool.and_eq_true, decide_eq_true_iff, Bool.not_eq_true'] at h
    exact ⟨j + 1, by omega, by have := List.mem_range.mp hj; omega, h.1, h.2⟩
  · rintro ⟨k, h1, h2, h3, h4⟩
    obtain ⟨j, rfl⟩ : ∃ j, k = j + 1 := ⟨k - 1, by omega⟩
    refine ⟨j, List.mem_range.mpr (by omega), ?_⟩
    rw [Bool.and_eq_true, decide_eq_true_iff, Bool.not_eq_true']
    exact ⟨h3, h4⟩
theorem won_iff {n : Nat} : won n = true ↔ ∃ k, 1 ≤ k ∧ k ≤ 31 ∧ k * k ≤ n ∧ won (n - k * k) = false := by
  have h : won n = exb n (wf n) := by show (if n = n then exb n (wf n) else _) = _; rw [if_pos rfl]
  rw [h, exb_iff]
  constructor
  · rintro ⟨k, h1, h2, h3, h4⟩
    have hk : 1 ≤ k * k := Nat.mul_le_mul h1 h1
    exact ⟨k, h1, h2, h3, by rw [← wf_won (n := n) (by omega)]; exact h4⟩
  · rintro ⟨k, h1, h2, h3, h4⟩
    have hk : 1 ≤ k * k := Nat.mul_le_mul h1 h1
    exact ⟨k, h1, h2, h3, by rw [wf_won (n := n) (by omega)]; exact h4⟩
/-- the least take, found from above: behind j steps -/
def ls (n : Nat) : Nat → Int32
  | 0 => -6
  | j + 1 => if (31 - j) * (31 - j) ≤ n ∧ won (n - (31 - j) * (31 - j)) = false then nI ((31 - j) * (31 - j)) else ls n j
theorem ls_out {n : Nat} : ∀ j, j ≤ 31 → n < (32 - j) * (32 - j) → ls n j = -6 := by
  intro j
  induction j with
  | zero => intro _ _; rfl
  | succ j ih =>
    intro hj hn
    rw [show 32 - (j + 1) = 31 - j by omega] at hn
    show (if (31 - j) * (31 - j) ≤ n ∧ _ then _ else ls n j) = _
    rw [if_neg (fun z => absurd z.1 (by omega))]
    refine ih (by omega) ?_
    have : (31 - j) * (31 - j) ≤ (32 - j) * (32 - j) := Nat.mul_le_mul (by omega) (by omega)
    omega
theorem ls_neg {n : Nat} : ∀ j, j ≤ 31 → (ls n j = -6 ∧ ∀ k, 32 - j ≤ k → k ≤ 31 → k * k ≤ n → won (n - k * k) = true) ∨ (∃ k, 32 - j ≤ k ∧ k ≤ 31 ∧ 1 ≤ k ∧ k * k ≤ n ∧ won (n - k * k) = false ∧ ls n j = nI (k * k)) := by
  intro j
  induction j with
  | zero => intro _; exact Or.inl ⟨rfl, fun k h1 h2 => by omega⟩
  | succ j ih =>
    intro hj
    by_cases c : (31 - j) * (31 - j) ≤ n ∧ won (n - (31 - j) * (31 - j)) = false
    · exact Or.inr ⟨31 - j, by omega, by omega, by omega, c.1, c.2, if_pos c⟩
    · have e : ls n (j + 1) = ls n j := if_neg c
      rcases ih (by omega) with ⟨h1, h2⟩ | ⟨k, h1, h2, h3, h4, h5, h6⟩
      · refine Or.inl ⟨by rw [e]; exact h1, fun k a b d => ?_⟩
        by_cases z : k = 31 - j
        · subst z
          cases hw : won (n - (31 - j) * (31 - j))
          · exact absurd ⟨d, hw⟩ c
          · rfl
        · exact h2 k (by omega) b d
      · exact Or.inr ⟨k, by omega, h2, h3, h4, h5, by rw [e]; exact h6⟩
theorem sq_lt {k : Nat} (h : k ≤ 31) : k * k ≤ 961 := Nat.mul_le_mul h h
theorem nI_mulk (k : Nat) : nI k * nI k = nI (k * k) := pk_mul k k
theorem ls_31 {n : Nat} : (ls n 31 = -6 ∧ won n = false) ∨ (∃ k, k ≤ 961 ∧ ls n 31 = nI k ∧ won n = true) := by
  rcases ls_neg (n := n) 31 (by decide) with ⟨h1, h2⟩ | ⟨k, h1, h2, h3, h4, h5, h6⟩
  · refine Or.inl ⟨h1, ?_⟩
    cases hw : won n
    · rfl
    · obtain ⟨k, a, b, c, d⟩ := won_iff.mp hw
      rw [h2 k (by omega) b c] at d
      exact absurd d (by decide)
  · exact Or.inr ⟨k * k, sq_lt h2, h6, won_iff.mpr ⟨k, h3, h2, h4, h5⟩⟩
/-- the reference's row of wins is right below n -/
def WN (n : Nat) (v : Nat → Int32) : Prop := ∀ m, m < n → v m = if won m = true then 1 else 0
theorem leastM {n : Nat} {v : Nat → Int32} (hn : n < 1000) (hv : WN n v) : f_M_leastTake (nI n) v = some (ls n 31) := by
  unfold f_M_leastTake
  refine it2_seq (F := bd_M_leastTake_6 (nI n) v) (fun j => ls n j) (fun j => nI (31 - j)) 31 ?_ ?_ 1100 (by omega)
  · intro j hj r
    show bd_M_leastTake_6 (nI n) v r (ls n j) (nI (31 - j)) = r (if (31 - j) * (31 - j) ≤ n ∧ won (n - (31 - j) * (31 - j)) = false then nI ((31 - j) * (31 - j)) else ls n j) (nI (31 - (j + 1)))
    unfold bd_M_leastTake_6
    have hs := sq_lt (k := 31 - j) (by omega)
    have e : nI (31 - j) + (-1) = nI (31 - (j + 1)) := by
      rw [show 31 - j = (31 - (j + 1)) + 1 by omega, ← nI_1]
      show nI (31 - (j + 1)) + 1 + -1 = _
      rw [Int32.add_assoc]; exact Int32.add_zero _
    rw [if_neg (show ¬ nI (31 - j) ≤ 0 from nI_ge (b := 31 - j) (a := 0) (by omega) (by omega)), nI_mulk, e]
    by_cases z : n < (31 - j) * (31 - j)
    · rw [if_pos (nI_lt z (by omega)), if_neg (fun y => absurd y.1 (by omega))]
    · have h1 : 1 ≤ (31 - j) * (31 - j) := Nat.mul_le_mul (show 1 ≤ 31 - j by omega) (show 1 ≤ 31 - j by omega)
      rw [if_neg (nI_nlt (by omega) (by omega)), pk_sub (by omega), kx_nI (by omega) (by decide), nI_clamp (by omega), hv _ (by omega)]
      cases hw : won (n - (31 - j) * (31 - j))
      · rw [if_pos (by decide), if_pos ⟨by omega, rfl⟩]
      · rw [if_neg (by decide), if_neg (fun y => absurd y.2 (by decide))]
  · intro r
    show bd_M_leastTake_6 (nI n) v r (ls n 31) (nI (31 - 31)) = _
    unfold bd_M_leastTake_6
    rw [if_pos (show nI (31 - 31) ≤ 0 by decide)]
theorem squaresM {n : Nat} (hn : n < 1000) (p2 : Int32) (v : Nat → Int32) : ∃ w, it2 (bd_M_squares_27 (nI n) p2) 1100 0 v = some (if p2 = 1 then ls n 31 else if won n = true then 1 else 0, w) := by
  have key : ∀ j i : Nat, i + j = n + 1 → ∀ v, WN i v → ∀ f, j < f → ∃ w, it2 (bd_M_squares_27 (nI n) p2) f (nI i) v = some (if p2 = 1 then ls n 31 else if won n = true then 1 else 0, w) := by
    intro j
    induction j with
    | zero =>
      intro i hi v hv f hf
      obtain ⟨f, rfl⟩ : ∃ g, f = g + 1 := ⟨f - 1, by omega⟩
      show ∃ w, bd_M_squares_27 (nI n) p2 (it2 (bd_M_squares_27 (nI n) p2) f) (nI i) v = _
      generalize it2 (bd_M_squares_27 (nI n) p2) f = F
      unfold bd_M_squares_27
      rw [if_pos (nI_lt (show n < i by omega) (by omega))]
      by_cases c : p2 = 1
      · rw [if_pos c, if_pos c, bind_some' (leastM hn (fun m hm => hv m (by omega)))]
        exact ⟨v, rfl⟩
      · rw [if_neg c, if_neg c, kx_nI hn (by decide), nI_clamp (by omega), hv n (by omega)]
        cases won n
        · exact ⟨v, rfl⟩
        · exact ⟨v, rfl⟩
    | succ j ih =>
      intro i hi v hv f hf
      obtain ⟨f, rfl⟩ : ∃ g, f = g + 1 := ⟨f - 1, by omega⟩
      show ∃ w, bd_M_squares_27 (nI n) p2 (it2 (bd_M_squares_27 (nI n) p2) f) (nI i) v = _
      have ih' := ih (i + 1) (by omega)
      generalize hF : it2 (bd_M_squares_27 (nI n) p2) f = F
      unfold bd_M_squares_27
      rw [if_neg (nI_nlt (show i ≤ n by omega) (by omega)), bind_some' (leastM (show i < 1000 by omega) hv), nI_1]
      subst hF
      rcases ls_31 (n := i) with ⟨h1, h2⟩ | ⟨k, h1, h2, h3⟩
      · rw [h1, if_pos (by decide), kx_nI (by omega) (by decide), nI_clamp (by omega)]
        refine ih' _ (fun m hm => ?_) f (by omega)
        by_cases z : m = i
        · subst z; rw [upd_at, h2]; rfl
        · rw [upd_ne z]; exact hv m (by omega)
      · rw [h2, if_neg (show ¬ nI k < 0 from nI_nlt (b := 0) (by omega) (by omega)), kx_nI (by omega) (by decide), nI_clamp (by omega)]
        refine ih' _ (fun m hm => ?_) f (by omega)
        by_cases z : m = i
        · subst z; rw [upd_at, h3]; rfl
        · rw [upd_ne z]; exact hv m (by omega)
  exact key (n + 1) 0 (by omega) v (fun m hm => by omega) 1100 (by omega)
theorem markC {x : Nat} (hx : x < 1000) (v : Nat → Int64) : ∃ w, f_G_markAllAbove (nI x) v = some w ∧ ∀ m, m < 1000 → (tb w m = true ↔ tb v m = true ∨ ∃ k, 1 ≤ k ∧ k ≤ 31 ∧ m = x + k * k) := by
  have key : ∀ j i : Nat, i + j = 31 → ∀ v f, j < f → ∃ w, it2 (bd_G_markAllAbove_2 (nI x)) f (nI (i + 1)) v = some w ∧ ∀ m, m < 1000 → (tb w m = true ↔ tb v m = true ∨ ∃ k, i + 1 ≤ k ∧ k ≤ 31 ∧ m = x + k * k) := by
    intro j
    induction j with
    | zero =>
      intro i hi v f hf
      obtain ⟨f, rfl⟩ : ∃ g, f = g + 1 := ⟨f - 1, by omega⟩
      show ∃ w, bd_G_markAllAbove_2 (nI x) (it2 (bd_G_markAllAbove_2 (nI x)) f) (nI (i + 1)) v = _ ∧ _
      generalize it2 (bd_G_markAllAbove_2 (nI x)) f = F
      unfold bd_G_markAllAbove_2
      rw [if_pos (show (31 : Int32) < nI (i + 1) from nI_lt (a := 31) (by omega) (by omega))]
      refine ⟨v, rfl, fun m hm => ⟨Or.inl, fun h => ?_⟩⟩
      rcases h with h | ⟨k, h1, h2, -⟩
      · exact h
      · omega
    | succ j ih =>
      intro i hi v f hf
      obtain ⟨f, rfl⟩ : ∃ g, f = g + 1 := ⟨f - 1, by omega⟩
      show ∃ w, bd_G_markAllAbove_2 (nI x) (it2 (bd_G_markAllAbove_2 (nI x)) f) (nI (i + 1)) v = _ ∧ _
      have ih' := ih (i + 1) (by omega)
      generalize hF : it2 (bd_G_markAllAbove_2 (nI x)) f = F
      have hs := sq_lt (k := i + 1) (by omega)
      unfold bd_G_markAllAbove_2
      rw [if_neg (show ¬ (31 : Int32) < nI (i + 1) from nI_nlt (a := 31) (by omega) (by decide)), nI_mulk, nI_add, nI_1]
      have hw := within_nI (s := x + (i + 1) * (i + 1)) (lo := 0) (hi := 999) (by omega) (by decide) (by decide)
      by_cases z : x + (i + 1) * (i + 1) < 1000
      · rw [if_pos ⟨by omega, by omega⟩] at hw
        rw [bind_some' (show f_C_isWithin (nI (x + (i + 1) * (i + 1))) 0 999 = some 1 from hw), n10, shr6 z, kx_nI (by omega) (by decide), kx_nI (by omega) (by decide), nI_clamp (by omega), mask63]
        subst hF
        obtain ⟨w, hw1, hw2⟩ := ih' (vp_updL v ((x + (i + 1) * (i + 1)) / 64) (v ((x + (i + 1) * (i + 1)) / 64) ||| ((1 : Int64) <<< lN ((x + (i + 1) * (i + 1)) % 64)))) f (by omega)
        refine ⟨w, hw1, fun m hm => ?_⟩
        rw [hw2 m hm, tb_set, Bool.or_eq_true, decide_eq_true_iff]
        constructor
        · rintro ((h | h) | ⟨k, h1, h2, h3⟩)
          · exact Or.inl h
          · exact Or.inr ⟨i + 1, by omega, by omega, h⟩
          · exact Or.inr ⟨k, by omega, h2, h3⟩
        · rintro (h | ⟨k, h1, h2, h3⟩)
          · exact Or.inl (Or.inl h)
          · by_cases y : k = i + 1
            · subst y; exact Or.inl (Or.inr h3)
            · exact Or.inr ⟨k, by omega, h2, h3⟩
      · rw [if_neg (by omega)] at hw
        rw [bind_some' (show f_C_isWithin (nI (x + (i + 1) * (i + 1))) 0 999 = some 0 from hw), y00]
        subst hF
        obtain ⟨w, hw1, hw2⟩ := ih' v f (by omega)
        refine ⟨w, hw1, fun m hm => ?_⟩
        rw [hw2 m hm]
        constructor
        · rintro (h | ⟨k, h1, h2, h3⟩)
          · exact Or.inl h
          · exact Or.inr ⟨k, by omega, h2, h3⟩
        · rintro (h | ⟨k, h1, h2, h3⟩)
          · exact Or.inl h
          · by_cases y : k = i + 1
            · subst y; omega
            · exact Or.inr ⟨k, by omega, h2, h3⟩
  exact key 31 0 (by omega) v 1100 (by omega)
/-- the class's bits when all below x are done -/
def BT (x : Nat) (v : Nat → Int64) : Prop := ∀ m, m < 1000 → (tb v m = true ↔ ∃ k, 1 ≤ k ∧ k ≤ 31 ∧ k * k ≤ m ∧ m - k * k < x ∧ won (m - k * k) = false)
theorem BT.at {x m : Nat} {v : Nat → Int64} (h : BT x v) (hm : m < 1000) (hx : m ≤ x) : tb v m = won m := by
  apply Bool.eq_iff_iff.mpr
  rw [h m hm, won_iff]
  constructor
  · rintro ⟨k, a, b, c, d, e⟩; exact ⟨k, a, b, c, e⟩
  · rintro ⟨k, a, b, c, e⟩
    have : 1 ≤ k * k := Nat.mul_le_mul a a
    exact ⟨k, a, b, c, by omega, e⟩
theorem findC {v : Nat → Int64} (h : BT 0 v) : ∃ w, it2 (bd_G_findAll_15 1) 1100 0 v = some (1, w) ∧ BT 1000 w := by
  have key : ∀ j i : Nat, i + j = 1000 → ∀ v, BT i v → ∀ f, j < f → ∃ w, it2 (bd_G_findAll_15 1) f (nI i) v = some (1, w) ∧ BT 1000 w := by
    intro j
    induction j with
    | zero =>
      intro i hi v hv f hf
      obtain ⟨f, rfl⟩ : ∃ g, f = g + 1 := ⟨f - 1, by omega⟩
      show ∃ w, bd_G_findAll_15 1 (it2 (bd_G_findAll_15 1) f) (nI i) v = _ ∧ _
      generalize it2 (bd_G_findAll_15 1) f = F
      unfold bd_G_findAll_15
      rw [if_pos (show (999 : Int32) < nI i from nI_lt (a := 999) (by omega) (by omega))]
      exact ⟨v, rfl, by rw [show i = 1000 by omega] at hv; exact hv⟩
    | succ j ih =>
      intro i hi v hv f hf
      obtain ⟨f, rfl⟩ : ∃ g, f = g + 1 := ⟨f - 1, by omega⟩
      show ∃ w, bd_G_findAll_15 1 (it2 (bd_G_findAll_15 1) f) (nI i) v = _ ∧ _
      have ih' := ih (i + 1) (by omega)
      generalize hF : it2 (bd_G_findAll_15 1) f = F
      unfold bd_G_findAll_15
      rw [if_neg (show ¬ (999 : Int32) < nI i from nI_nlt (a := 999) (by omega) (by decide)), bind_some' (isWon_tb (show i < 1000 by omega)), hv.at (show i < 1000 by omega) (Nat.le_refl i), nI_1]
      subst hF
      cases hw : won i
      · rw [if_neg (show ¬ false = true by decide), y00]
        obtain ⟨w, hw1, hw2⟩ := markC (show i < 1000 by omega) v
        rw [bind_some' hw1]
        refine ih' w (fun m hm => ?_) f (by omega)
        rw [hw2 m hm, hv m hm]
        constructor
        · rintro (⟨k, a, b, c, d, e⟩ | ⟨k, a, b, c⟩)
          · exact ⟨k, a, b, c, by omega, e⟩
          · exact ⟨k, a, b, by omega, by omega, by rw [show m - k * k = i by omega]; exact hw⟩
        · rintro ⟨k, a, b, c, d, e⟩
          by_cases y : m - k * k = i
          · exact Or.inr ⟨k, a, b, by omega⟩
          · exact Or.inl ⟨k, a, b, c, by omega, e⟩
      · rw [if_pos (show true = true by decide), n10]
        refine ih' v (fun m hm => ?_) f (by omega)
        rw [hv m hm]
        constructor
        · rintro ⟨k, a, b, c, d, e⟩; exact ⟨k, a, b, c, by omega, e⟩
        · rintro ⟨k, a, b, c, d, e⟩
          refine ⟨k, a, b, c, ?_, e⟩
          by_cases y : m - k * k = i
          · rw [y, hw] at e; exact absurd e (by decide)
          · omega
  exact key 1000 0 (by omega) v h 1100 (by omega)
theorem leastC {n : Nat} (hn : n < 1000) (fd : Int32) {v : Nat → Int64} (hv : BT 1000 v) : it1 (bd_G_leastWinningTake_6 (nI n) fd v) 1100 1 = some (ls n 31, fd, v) := by
  have key : ∀ j i : Nat, i + j = 31 → ∀ f, j < f → it1 (bd_G_leastWinningTake_6 (nI n) fd v) f (nI (i + 1)) = some (ls n j, fd, v) := by
    intro j
    induction j with
    | zero =>
      intro i hi f hf
      obtain ⟨f, rfl⟩ : ∃ g, f = g + 1 := ⟨f - 1, by omega⟩
      show bd_G_leastWinningTake_6 (nI n) fd v (it1 (bd_G_leastWinningTake_6 (nI n) fd v) f) (nI (i + 1)) = _
      generalize it1 (bd_G_leastWinningTake_6 (nI n) fd v) f = F
      unfold bd_G_leastWinningTake_6
      rw [if_pos (show (31 : Int32) < nI (i + 1) from nI_lt (a := 31) (by omega) (by omega))]
      rfl
    | succ j ih =>
      intro i hi f hf
      obtain ⟨f, rfl⟩ : ∃ g, f = g + 1 := ⟨f - 1, by omega⟩
      show bd_G_leastWinningTake_6 (nI n) fd v (it1 (bd_G_leastWinningTake_6 (nI n) fd v) f) (nI (i + 1)) = _
      have ih' := ih (i + 1) (by omega) f (by omega)
      generalize hF : it1 (bd_G_leastWinningTake_6 (nI n) fd v) f = F
      rw [hF] at ih'
      have hs := sq_lt (k := i + 1) (by omega)
      unfold bd_G_leastWinningTake_6
      rw [if_neg (show ¬ (31 : Int32) < nI (i + 1) from nI_nlt (a := 31) (by omega) (by decide)), nI_mulk]
      by_cases z : n < (i + 1) * (i + 1)
      · rw [if_pos (nI_lt z (by omega)), ls_out (j + 1) (by omega) (by rw [show 32 - (j + 1) = i + 1 by omega]; exact z)]
      · have e : ls n (j + 1) = if (i + 1) * (i + 1) ≤ n ∧ won (n - (i + 1) * (i + 1)) = false then nI ((i + 1) * (i + 1)) else ls n j := by
          show (if (31 - j) * (31 - j) ≤ n ∧ won (n - (31 - j) * (31 - j)) = false then nI ((31 - j) * (31 - j)) else ls n j) = _
          rw [show 31 - j = i + 1 by omega]
        rw [if_neg (nI_nlt (by omega) (by omega)), pk_sub (by omega), bind_some' (isWon_tb (by omega)), hv.at (by omega) (by omega), e, nI_1]
        cases hw : won (n - (i + 1) * (i + 1))
        · rw [if_neg (show ¬ false = true by decide), y00, if_pos ⟨by omega, rfl⟩]
        · rw [if_pos (show true = true by decide), n10, if_neg (fun y => absurd y.2 (by decide))]
          exact ih'
  exact key 31 0 (by omega) 1100 (by omega)
/-- what the class keeps of the heaps -/
def GOK (fd : Int32) (v : Nat → Int64) : Prop := (fd = 0 ∧ ∀ m, m < 1000 → tb v m = false) ∨ (fd = 1 ∧ BT 1000 v)
theorem op_squares {fd : Int32} {v : Nat → Int64} (p1 p2 : Int32) (w : Nat → Int32) (h : GOK fd v) : ∃ (r fd' : Int32) (v' : Nat → Int64) (w' : Nat → Int32), f_C_squares p1 p2 fd v = some (r, fd', v') ∧ f_M_squares p1 p2 w = some (r, w') ∧ GOK fd' v' := by
  have i1 := inL_eq p1 (lo := 0) (hi := 999) (by decide) (by decide)
  have i2 := inL_eq p2 (lo := 0) (hi := 1) (by decide) (by decide)
  unfold f_C_squares f_M_squares
  rcases within_cases p1 (lo := 0) (hi := 999) (by decide) (by decide) with ⟨n, -, hn, rfl, w1⟩ | w1
  · rw [w1] at i1
    rw [bind_some' (show f_C_isWithin (nI n) 0 999 = some 1 from w1), bind_some' (show f_M_in (Int32.toInt64 (nI n)) 0 999 = some 1 from i1), n10, n10]
    rcases within_cases p2 (lo := 0) (hi := 1) (by decide) (by decide) with ⟨y, -, hy, rfl, w2⟩ | w2
    · rw [w2] at i2
      rw [bind_some' (show f_C_isWithin (nI y) 0 1 = some 1 from w2), bind_some' (show f_M_in (Int32.toInt64 (nI y)) 0 1 = some 1 from i2), n10, n10]
      obtain ⟨w', hw'⟩ := squaresM (show n < 1000 by omega) (nI y) w
      obtain ⟨v', hv', hB⟩ : ∃ v', f_G_findAll fd v = some (1, v') ∧ BT 1000 v' := by
        unfold f_G_findAll
        rcases h with ⟨rfl, h0⟩ | ⟨rfl, h1⟩
        · rw [y00]
          exact findC (fun m hm => ⟨fun z => by rw [h0 m hm] at z; exact absurd z (by decide), fun ⟨k, _, _, _, d, _⟩ => absurd d (by omega)⟩)
        · rw [n10]; exact ⟨v, rfl, h1⟩
      have hl : f_G_leastWinningTake (nI n) fd v = some (ls n 31, 1, v') := by
        unfold f_G_leastWinningTake
        rw [bind_some' hv']
        exact leastC (by omega) 1 hB
      rw [bind_some' hl]
      refine ⟨_, 1, v', w', ?_, hw', Or.inr ⟨rfl, hB⟩⟩
      dsimp only
      by_cases c : nI y = 1
      · rw [if_pos c, if_pos c]
      · rw [if_neg c, if_neg c]
        rcases ls_31 (n := n) with ⟨h1, h2⟩ | ⟨k, h1, h2, h3⟩
        · rw [h1, h2, if_pos rfl]; rfl
        · rw [h2, h3, if_neg (fun z => by
            have := nI_ne_m6 (k := k) (by omega)
            exact this z)]; rfl
    · rw [w2] at i2
      rw [bind_some' (show f_C_isWithin p2 0 1 = some 0 from w2), bind_some' (show f_M_in (Int32.toInt64 p2) 0 1 = some 0 from i2), y00, y00]
      exact ⟨_, _, _, _, rfl, rfl, h⟩
  · rw [w1] at i1
    rw [bind_some' (show f_C_isWithin p1 0 999 = some 0 from w1), bind_some' (show f_M_in (Int32.toInt64 p1) 0 999 = some 0 from i1), y00, y00]
    exact ⟨_, _, _, _, rfl, rfl, h⟩
