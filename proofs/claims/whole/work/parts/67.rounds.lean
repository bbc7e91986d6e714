/-! rounds: an act read off the text; one act told; all acts of a text, class and reference -/
theorem signAt_nI {p : Nat} {sg : Nat → Int32} (hp : p < 60) : f_D_signAt (nI p) sg = some (sg p) := by
  unfold f_D_signAt
  rw [if_neg (nI_pos (by omega)), if_neg (show ¬ (60 : Int32) ≤ nI p from nI_ge (b := 60) hp (by decide)), kx_nI hp (by decide), nI_clamp (by omega)]
theorem digitAt_nI {p i : Nat} {sg : Nat → Int32} (hp : p < 60) (e : sg p = nI (48 + i)) : f_D_digitAt (nI p) sg = some (nI i) := by
  unfold f_D_digitAt
  rw [bind_some' (signAt_nI hp), e, sub48]
theorem readAct_AR {sg : Nat → Int32} {p L cnt : Nat} {w a b v kd pl ot wa nu : Int32} (hA : ACT sg p L w a b v) (hL : p + L ≤ cnt) (hc : cnt ≤ 60) : ∃ kd' pl' ot' wa' nu', f_D_readAct (nI p) sg kd pl ot wa nu = some (nI L, kd', pl', ot', wa', nu') ∧ AR kd' pl' ot' wa' nu' w a b v := by
  have n1 : nI p + 1 = nI (p + 1) := nI_1 p
  have n2 : nI p + 2 = nI (p + 2) := nI_add p 2
  have n3 : nI p + 3 = nI (p + 3) := nI_add p 3
  rcases hA with ⟨e, rfl, rfl, i, j, q, hi, hj, hq1, hq9, e1, e2, e3, rfl, rfl, rfl⟩ | ⟨e, rfl, rfl, i, hi, e1, rfl⟩ | ⟨e, rfl, rfl, i, hi, e1, rfl⟩ | ⟨l, i, q, hl, hi, hq1, hq9, e, rfl, rfl, e1, e2, rfl, rfl, rfl⟩ | ⟨e, rfl, rfl⟩
  · refine ⟨0, nI i, nI j, wa, nI q, ?_, Or.inl ⟨rfl, rfl, i, j, q, hi, hj, hq1, hq9, rfl, rfl, rfl, rfl, rfl, rfl⟩⟩
    unfold f_D_readAct
    rw [bind_some' (signAt_nI (by omega)), e, if_neg (by decide), if_neg (by decide), if_neg (by decide), if_pos rfl, n1, n2, n3, bind_some' (digitAt_nI (by omega) e1), bind_some' (digitAt_nI (by omega) e2), bind_some' (digitAt_nI (by omega) e3)]
    rfl
  · refine ⟨1, nI i, ot, wa, nu, ?_, Or.inr (Or.inl ⟨rfl, rfl, i, hi, rfl, rfl⟩)⟩
    unfold f_D_readAct
    rw [bind_some' (signAt_nI (by omega)), e, if_neg (by decide), if_neg (by decide), if_pos rfl, n1, bind_some' (digitAt_nI (by omega) e1)]
    rfl
  · refine ⟨2, nI i, ot, wa, nu, ?_, Or.inr (Or.inr (Or.inl ⟨rfl, rfl, i, hi, rfl, rfl⟩))⟩
    unfold f_D_readAct
    rw [bind_some' (signAt_nI (by omega)), e, if_neg (by decide), if_pos rfl, n1, bind_some' (digitAt_nI (by omega) e1)]
    rfl
  · refine ⟨3, nI i, ot, nI l, nI q, ?_, Or.inr (Or.inr (Or.inr (Or.inl ⟨rfl, rfl, l, i, q, hl, hi, hq1, hq9, rfl, rfl, rfl, rfl, rfl, rfl⟩)))⟩
    unfold f_D_readAct
    rw [bind_some' (signAt_nI (by omega)), e]
    have h65 : nI (65 + l) - 65 = nI l := by
      rw [show (65 : Int32) = nI 65 from rfl, pk_sub (by omega)]
      congr 1
      omega
    have hlen : f_D_lengthOf (nI (65 + l)) = some 3 := by
      rw [(sign_f (s := 65 + l) (by omega)).1]
      unfold lenN
      rw [if_neg (by omega), if_neg (by omega), if_neg (by omega), if_neg (by omega), if_pos (by omega)]
      rfl
    rw [if_neg (show ¬ nI (65 + l) = (46 : Int32) from fun z => by have := (nI_eq (b := 46) (by omega) (by decide)).mp z; omega), if_neg (show ¬ nI (65 + l) = (104 : Int32) from fun z => by have := (nI_eq (b := 104) (by omega) (by decide)).mp z; omega), if_neg (show ¬ nI (65 + l) = (108 : Int32) from fun z => by have := (nI_eq (b := 108) (by omega) (by decide)).mp z; omega), if_neg (show ¬ nI (65 + l) = (115 : Int32) from fun z => by have := (nI_eq (b := 115) (by omega) (by decide)).mp z; omega), n1, n2, bind_some' (digitAt_nI (by omega) e1), bind_some' (digitAt_nI (by omega) e2), h65]
    unfold f_A_setBet jn_D_readAct_137
    rw [bind_some' rfl, bind_some' hlen]
    rfl
  · refine ⟨4, 0, ot, wa, nu, ?_, Or.inr (Or.inr (Or.inr (Or.inr ⟨rfl, rfl⟩)))⟩
    unfold f_D_readAct
    rw [bind_some' (signAt_nI (by omega)), e, if_pos rfl]
    rfl
/-- the least watcher of some -/
def low4 (x : Nat) : Nat := if x % 2 = 1 then 0 else if x / 2 % 2 = 1 then 1 else if x / 4 % 2 = 1 then 2 else 3
theorem low4_lt (x : Nat) : low4 x < 4 := by
  unfold low4
  repeat' split
  all_goals decide
theorem low_chk : ((List.range 16).all fun x => x == 0 || (decide (((nI x >>> (nI (low4 x) &&& 31)) &&& 1) = 1) && (List.range (low4 x)).all fun j => decide (¬ ((nI x >>> (nI j &&& 31)) &&& 1) = 1))) = true := by decide +kernel
theorem low_f {x : Nat} (hx : x < 16) (h0 : x ≠ 0) : ((nI x >>> (nI (low4 x) &&& 31)) &&& 1) = 1 ∧ ∀ j, j < low4 x → ¬ ((nI x >>> (nI j &&& 31)) &&& 1) = 1 := by
  have h := all_lt low_chk hx
  rw [Bool.or_eq_true, beq_iff_eq] at h
  rcases h with h | h
  · exact absurd h h0
  · have h2 := (Bool.and_eq_true _ _).mp h
    exact ⟨of_decide_eq_true h2.1, fun j hj => of_decide_eq_true (all_lt h2.2 hj)⟩
theorem new_chk : ((List.range 16).all fun a => (List.range 16).all fun b => decide ((nI a &&& (nI b ^^^ (-1))).toNatClampNeg < 16 ∧ nI a &&& (nI b ^^^ (-1)) = nI (nI a &&& (nI b ^^^ (-1))).toNatClampNeg)) = true := by decide +kernel
theorem new_lt {a b : Nat} (ha : a < 16) (hb : b < 16) : ∃ x, x < 16 ∧ nI a &&& (nI b ^^^ (-1)) = nI x := ⟨_, of_decide_eq_true (all_lt (all_lt new_chk ha) hb)⟩
theorem leastOf_nI {x : Nat} (hx : x < 16) (h0 : x ≠ 0) : f_M_leastOf (nI x) = some (nI (low4 x)) := by
  obtain ⟨h1, h2⟩ := low_f hx h0
  unfold f_M_leastOf
  refine it1_seq (fun i => nI i) (low4 x) ?_ ?_ 1100 (by have := low4_lt x; omega)
  · intro i hi r
    show bd_M_leastOf_2 _ r (nI i) = r (nI (i + 1))
    unfold bd_M_leastOf_2 f_M_has
    rw [if_neg (h2 i hi), bind_some' rfl, if_pos rfl, nI_1]
  · intro r
    show bd_M_leastOf_2 _ r (nI _) = _
    unfold bd_M_leastOf_2 f_M_has
    rw [if_pos h1, bind_some' rfl, if_neg (by decide)]
