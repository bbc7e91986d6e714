/-! rounds: an act read off the text; one act told; all acts of a text, class and reference -/
theorem signAt_nI {p : Nat} {sg : Nat → Int32} (hp : p < 60) : f_D_signAt (nI p) sg = some (sg p) := by
  unfold f_D_signAt
  rw [if_neg (nI_pos (by omega)), if_neg (show ¬ (60 : Int32) ≤ nI p from nI_ge (b := 60) hp (by decide)), kx_nI hp (by decide), nI_clamp (by omega)]
theorem digitAt_nI {p i : Nat} {sg : Nat → Int32} (hp : p < 60) (e : sg p = nI (48 + i)) : f_D_digitAt (nI p) sg = some (nI i) := by
  unfold f_D_digitAt
  rw [bind_some' (signAt_nI hp), e, sub48]
theorem readAct_AR {sg : Nat → Int32} {p L cnt : Nat} {w a b v kd pl ot wa nu : Int32} (hA : ACT sg p L w a b v) (hL : p + L ≤ cnt) (hc : cnt ≤ 60) : ∃ kd' pl' ot' wa' nu', f_D_readAct (nI p) sg kd pl ot wa nu = some (nI L, kd', pl', ot', wa', nu') ∧ AR kd' pl' ot' wa' nu' w a b v := by
  have n1 : nI p + 1 = nI (p + 1) := nI_1 p
  have n2 : nI p + 2 = nI (p + 2) := nI_add p 2
  have n3 : nI p + 3 = nI (p + 3) := nI_add p 3
  rcases hA with ⟨e, rfl, rfl, i, j, q, hi, hj, hq1, hq9, e1, e2, e3, rfl, rfl, rfl⟩ | ⟨e, rfl, rfl, i, hi, e1, rfl⟩ | ⟨e, rfl, rfl, i, hi, e1, rfl⟩ | ⟨l, i, q, hl, hi, hq1, hq9, e, rfl, rfl, e1, e2, rfl, rfl, rfl⟩ | ⟨e, rfl, rfl⟩
  · refine ⟨0, nI i, nI j, wa, nI q, ?_, Or.inl ⟨rfl, rfl, i, j, q, hi, hj, hq1, hq9, rfl, rfl, rfl, rfl, rfl, rfl⟩⟩
    unfold f_D_readAct
    rw [bind_some' (signAt_nI (by omega)), e, if_neg (by decide), if_neg (by decide), if_neg (by decide), if_pos rfl, n1, n2, n3, bind_some' (digitAt_nI (by omega) e1), bind_some' (digitAt_nI (by omega) e2), bind_some' (digitAt_nI (by omega) e3)]
    rfl
  · refine ⟨1, nI i, ot, wa, nu, ?_, Or.inr (Or.inl ⟨rfl, rfl, i, hi, rfl, rfl⟩)⟩
    unfold f_D_readAct
    rw [bind_some' (signAt_nI (by omega)), e, if_neg (by decide), if_neg (by decide), if_pos rfl, n1, bind_some' (digitAt_nI (by omega) e1)]
    rfl
  · refine ⟨2, nI i, ot, wa, nu, ?_, Or.inr (Or.inr (Or.inl ⟨rfl, rfl, i, hi, rfl, rfl⟩))⟩
    unfold f_D_readAct
    rw [bind_some' (signAt_nI (by omega)), e, if_neg (by decide), if_pos rfl, n1, bind_some' (digitAt_nI (by omega) e1)]
    rfl
  · refine ⟨3, nI i, ot, nI l, nI q, ?_, Or.inr (Or.inr (Or.inr (Or.inl ⟨rfl, rfl, l, i, q, hl, hi, hq1, hq9, rfl, rfl, rfl, rfl, rfl, rfl⟩)))⟩
    unfold f_D_readAct
    rw [bind_some' (signAt_nI (by omega)), e]
    have h65 : nI (65 + l) - 65 = nI l := by
      rw [show (65 : Int32) = nI 65 from rfl, pk_sub (by omega)]
      congr 1
      omega
    have hlen : f_D_lengthOf (nI (65 + l)) = some 3 := by
      rw [(sign_f (s := 65 + l) (by omega)).1]
      unfold lenN
      rw [if_neg (by omega), if_neg (by omega), if_neg (by omega), if_neg (by omega), if_pos (by omega)]
      rfl
    rw [if_neg (show ¬ nI (65 + l) = (46 : Int32) from fun z => by have := (nI_eq (b := 46) (by omega) (by decide)).mp z; omega), if_neg (show ¬ nI (65 + l) = (104 : Int32) from fun z => by have := (nI_eq (b := 104) (by omega) (by decide)).mp z; omega), if_neg (show ¬ nI (65 + l) = (108 : Int32) from fun z => by have := (nI_eq (b := 108) (by omega) (by decide)).mp z; omega), if_neg (show ¬ nI (65 + l) = (115 : Int32) from fun z => by have := (nI_eq (b := 115) (by omega) (by decide)).mp z; omega), n1, n2, bind_some' (digitAt_nI (by omega) e1), bind_some' (digitAt_nI (by omega) e2), h65]
    unfold f_A_setBet jn_D_readAct_137
    rw [bind_some' rfl, bind_some' hlen]
    rfl
  · refine ⟨4, 0, ot, wa, nu, ?_, Or.inr (Or.inr (Or.inr (Or.inr ⟨rfl, rfl⟩)))⟩
    unfold f_D_readAct
    rw [bind_some' (signAt_nI (by omega)), e, if_pos rfl]
    rfl
/-- the least watcher of some -/
def low4 (x : Nat) : Nat := if x % 2 = 1 then 0 else if x / 2 % 2 = 1 then 1 else if x / 4 % 2 = 1 then 2 else 3
theorem low4_lt (x : Nat) : low4 x < 4 := by
  unfold low4
  repeat' split
  all_goals decide
theorem low_chk : ((List.range 16).all fun x => x == 0 || (decide (((nI x >>> (nI (low4 x) &&& 31)) &&& 1) = 1) && (List.range (low4 x)).all fun j => decide (¬ ((nI x >>> (nI j &&& 31)) &&& 1) = 1))) = true := by decide +kernel
theorem low_f {x : Nat} (hx : x < 16) (h0 : x ≠ 0) : ((nI x >>> (nI (low4 x) &&& 31)) &&& 1) = 1 ∧ ∀ j, j < low4 x → ¬ ((nI x >>> (nI j &&& 31)) &&& 1) = 1 := by
  have h := all_lt low_chk hx
  rw [Bool.or_eq_true, beq_iff_eq] at h
  rcases h with h | h
  · exact absurd h h0
  · have h2 := (Bool.and_eq_true _ _).mp h
    exact ⟨of_decide_eq_true h2.1, fun j hj => of_decide_eq_true (all_lt h2.2 hj)⟩
theorem new_chk : ((List.range 16).all fun a => (List.range 16).all fun b => decide ((nI a &&& (nI b ^^^ (-1))).toNatClampNeg < 16 ∧ nI a &&& (nI b ^^^ (-1)) = nI (nI a &&& (nI b ^^^ (-1))).toNatClampNeg)) = true := by decide +kernel
theorem new_lt {a b : Nat} (ha : a < 16) (hb : b < 16) : ∃ x, x < 16 ∧ nI a &&& (nI b ^^^ (-1)) = nI x := ⟨_, of_decide_eq_true (all_lt (all_lt new_chk ha) hb)⟩
theorem leastOf_nI {x : Nat} (hx : x < 16) (h0 : x ≠ 0) : f_M_leastOf (nI x) = some (nI (low4 x)) := by
  obtain ⟨h1, h2⟩ := low_f hx h0
  unfold f_M_leastOf
  refine it1_seq (fun i => nI i) (low4 x) ?_ ?_ 1100 (by have := low4_lt x; omega)
  · intro i hi r
    show bd_M_leastOf_2 _ r (nI i) = r (nI (i + 1))
    unfold bd_M_leastOf_2 f_M_has
    rw [if_neg (h2 i hi), bind_some' rfl, if_pos rfl, nI_1]
  · intro r
    show bd_M_leastOf_2 _ r (nI _) = _
    unfold bd_M_leastOf_2 f_M_has
    rw [if_pos h1, bind_some' rfl, if_neg (by decide)]
theorem note_nI {x e : Nat} {wA wW : Int32} (hx : x < 16) (he : e < 2 ^ 31) (hw : wA = -6 ∨ ∃ k, k < 2 ^ 31 ∧ wA = nI k) : f_L_noteWrong (nI x) (nI e) wA wW = some (if x = 0 then (wA, wW) else if wA = -6 then (nI e, nI (low4 x)) else (wA, wW)) := by
  have e6 : ¬ nI e = -6 := nI_ne_m6 he
  rcases hw with rfl | ⟨k, hk, rfl⟩
  · by_cases h0 : x = 0
    · subst h0
      rw [if_pos rfl]
      unfold f_L_noteWrong
      refine it3_seq (fun i => nI i) (fun _ => -6) (fun _ => wW) 4 ?_ ?_ 1100 (by decide)
      · intro i hi r
        show bd_L_noteWrong_2 _ _ r (nI i) _ _ = r (nI (i + 1)) (-6) wW
        unfold bd_L_noteWrong_2
        have hz : ∀ i, i < 4 → ¬ ((nI 0 >>> (nI i &&& 31)) &&& 1) = 1 := lt4 (by decide) (by decide) (by decide) (by decide)
        rw [if_neg (show ¬ (4 : Int32) ≤ nI i from nI_ge hi (by decide)), if_pos rfl, if_neg (hz i hi), nI_1]
      · intro r
        show bd_L_noteWrong_2 _ _ r (nI 4) _ _ = _
        unfold bd_L_noteWrong_2
        rw [if_pos (show (4 : Int32) ≤ nI 4 from by decide)]
    · obtain ⟨h1, h2⟩ := low_f hx h0
      have hl := low4_lt x
      rw [if_neg h0, if_pos rfl]
      unfold f_L_noteWrong
      have h := it3_seq (F := bd_L_noteWrong_2 (nI x) (nI e)) (fun i => nI i) (fun i => if i ≤ low4 x then -6 else nI e) (fun i => if i ≤ low4 x then wW else nI (low4 x)) (low4 x + 1) (K := some (nI e, nI (low4 x))) ?_ ?_ 1100 (by omega)
      · exact h
      · intro i hi r
        show bd_L_noteWrong_2 _ _ r (nI i) (if i ≤ low4 x then -6 else nI e) (if i ≤ low4 x then wW else nI (low4 x)) = r (nI (i + 1)) (if i + 1 ≤ low4 x then -6 else nI e) (if i + 1 ≤ low4 x then wW else nI (low4 x))
        rw [if_pos (show i ≤ low4 x by omega), if_pos (show i ≤ low4 x by omega)]
        unfold bd_L_noteWrong_2
        rw [if_neg (show ¬ (4 : Int32) ≤ nI i from nI_ge (b := 4) (by omega) (by decide)), if_pos rfl]
        by_cases z : i = low4 x
        · rw [if_pos (by rw [z]; exact h1), if_neg (by omega), if_neg (by omega), nI_1, z]
        · rw [if_neg (h2 i (by omega)), if_pos (by omega), if_pos (by omega), nI_1]
      · intro r
        show bd_L_noteWrong_2 _ _ r (nI (low4 x + 1)) (if low4 x + 1 ≤ low4 x then -6 else nI e) (if low4 x + 1 ≤ low4 x then wW else nI (low4 x)) = _
        rw [if_neg (by omega), if_neg (by omega)]
        unfold bd_L_noteWrong_2
        rw [if_neg e6]
        split <;> rfl
  · have h6 : ¬ nI k = -6 := nI_ne_m6 hk
    rw [if_neg h6, ite_self]
    unfold f_L_noteWrong
    show bd_L_noteWrong_2 _ _ _ 0 _ _ = _
    unfold bd_L_noteWrong_2
    rw [if_neg (by decide), if_neg h6]
