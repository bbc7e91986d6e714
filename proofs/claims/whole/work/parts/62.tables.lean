/-! tables: TT says what class and reference hold of one table: order o, pea's cup pc, round rd, eyes ey, coins co, thoughts th; the reference's row on and hidden cup hid -/
def TT (o pc rd : Int32) (ey co th on : Nat → Int32) (hid : Int32) : Prop :=
  (∃ a b c d e f, P6 a b c d e f ∧ o = or6 a b c d e f ∧ on = on6 a b c d e f) ∧ ((pc = -1 ∧ hid = -6) ∨ ∃ k, k < 6 ∧ pc = nI k ∧ hid = nI k) ∧ (∃ r, r ≤ 99 ∧ rd = nI r) ∧ (Zn 4 ey ∧ Zn 4 co ∧ Zn 4 th) ∧ (∀ w, w < 4 → ∃ q, q ≤ 999 ∧ co w = nI q) ∧ (∀ w, w < 4 → ∃ t, t < 64 ∧ th w = nI t)
theorem nI_ne_m1 {k : Nat} (h : k < 2 ^ 31) : ¬ nI k = -1 := fun e => by
  have := congrArg Int32.toInt e
  rw [nI_toInt h] at this
  have h2 : (-1 : Int32).toInt = -1 := by decide
  omega
theorem nI_ne_m6 {k : Nat} (h : k < 2 ^ 31) : ¬ nI k = -6 := fun e => by
  have := congrArg Int32.toInt e
  rw [nI_toInt h] at this
  have h2 : (-6 : Int32).toInt = -6 := by decide
  omega
theorem bind_id {α : Type} (x : Option α) : x.bind (fun u => some u) = x := by cases x <;> rfl
/-- where the pea is -/
theorem peaPlace_TT {o pc rd : Int32} {ey co th on : Nat → Int32} {hid : Int32} (h : TT o pc rd ey co th on hid) : ∃ pp, f_T_peaPlace o pc = some pp ∧ f_M_peaPlace hid on = some pp ∧ ((pc = -1 ∧ pp = -6) ∨ ∃ q, q < 6 ∧ pp = nI q) := by
  obtain ⟨⟨a, b, c, d, e, f, hp, rfl, rfl⟩, hpea, -⟩ := h
  rcases hpea with ⟨rfl, rfl⟩ | ⟨k, hk, rfl, rfl⟩
  · exact ⟨-6, rfl, rfl, Or.inl ⟨rfl, rfl⟩⟩
  · refine ⟨nI (pl6 a b c d e f k), ?_, ?_, Or.inr ⟨_, pl6_lt a b c d e f k, rfl⟩⟩
    · unfold f_T_peaPlace
      rw [if_neg (nI_ne_m1 (by omega)), bind_id, placeC hp hk]
    · unfold f_M_peaPlace
      rw [if_pos (nI_pos' (by omega)), bind_id, placeM hp hk]
/-- who is wrong -/
def wb (pp t : Int32) : Bool := decide (pp = -6) || decide (((t >>> (pp &&& 31)) &&& 1) = 0)
def wq (pp : Int32) (th : Nat → Int32) : Nat → Int32
  | 0 => 0
  | i + 1 => if wb pp (th i) = true then wq pp th i ||| ((1 : Int32) <<< (nI i &&& 31)) else wq pp th i
theorem wq_s (pp : Int32) (th : Nat → Int32) (i : Nat) : wq pp th (i + 1) = if wb pp (th i) = true then wq pp th i ||| ((1 : Int32) <<< (nI i &&& 31)) else wq pp th i := rfl
theorem wit16 {x : Int32} (h : x.toNatClampNeg < 16 ∧ x = nI x.toNatClampNeg) : ∃ b, b < 16 ∧ x = nI b := ⟨_, h⟩
theorem and1 (x : Int32) : x &&& 1 = 0 ∨ x &&& 1 = 1 := by
  obtain ⟨j, hj, e⟩ := pk_andE x (m := 1) 1 (by decide)
  rw [e]
  match j, hj with
  | 0, _ => exact Or.inl rfl
  | 1, _ => exact Or.inr rfl
theorem wrongC {pp : Int32} {o pc : Int32} {th : Nat → Int32} (h : f_T_peaPlace o pc = some pp) : f_T_wrongWatchers o pc th = some (wq pp th 4) := by
  unfold f_T_wrongWatchers
  rw [bind_some' h]
  refine it2_seq (fun i => wq pp th i) (fun i => nI i) 4 ?_ ?_ 1100 (by decide)
  · intro i hi r
    show bd_T_wrongWatchers_9 _ _ _ _ r _ (nI i) = r (wq pp th (i + 1)) (nI (i + 1))
    unfold bd_T_wrongWatchers_9
    rw [if_neg (show ¬ (4 : Int32) ≤ nI i from nI_ge hi (by decide)), kx_nI hi (by decide), nI_clamp (by omega)]
    unfold jn_T_wrongWatchers_33
    rw [nI_1, wq_s]
    by_cases q : pp = -6
    · rw [if_pos q, if_pos (by unfold wb; rw [decide_eq_true q]; rfl)]
    · rw [if_neg q]
      by_cases z : ((th i >>> (pp &&& 31)) &&& 1) = 0
      · rw [if_pos z, if_pos (by unfold wb; rw [decide_eq_true z, Bool.or_true])]
      · rw [if_neg z, if_neg (by unfold wb; rw [decide_eq_false q, decide_eq_false z]; decide)]
  · intro r
    show bd_T_wrongWatchers_9 _ _ _ _ r _ (nI 4) = _
    unfold bd_T_wrongWatchers_9
    rw [if_pos (show (4 : Int32) ≤ nI 4 from by decide)]
theorem or0 (x : Int32) : x ||| 0 = x := by
  apply Int32.toBitVec_inj.1
  show x.toBitVec ||| 0#32 = x.toBitVec
  exact BitVec.or_zero
theorem wrongM {pp hid : Int32} {on th : Nat → Int32} (h : f_M_peaPlace hid on = some pp) (hpp : pp = -6 ∨ ∃ q, q < 6 ∧ pp = nI q) : f_M_wrongOnes hid on th = some (wq pp th 4) ∧ ∀ w, w < 4 → f_M_isWrong (nI w) hid on th = some (if wb pp (th w) = true then 1 else 0) := by
  have one : ∀ w, w < 4 → f_M_isWrong (nI w) hid on th = some (if wb pp (th w) = true then 1 else 0) := by
    intro w hw
    unfold f_M_isWrong
    rw [bind_some' h, kx_nI hw (by decide), nI_clamp (by omega)]
    rcases hpp with rfl | ⟨q, hq, rfl⟩
    · rw [if_pos (by decide), if_pos (by unfold wb; rfl)]
    · rw [if_neg (nI_pos (by omega))]
      unfold f_M_has
      rcases and1 (th w >>> (nI q &&& 31)) with z | z
      · rw [if_neg (by rw [z]; decide), if_pos (by unfold wb; rw [decide_eq_true z, Bool.or_true])]
        rfl
      · rw [if_pos z, if_neg (by unfold wb; rw [decide_eq_false (nI_ne_m6 (by omega)), decide_eq_false (by rw [z]; decide)]; decide)]
        rfl
  refine ⟨?_, one⟩
  unfold f_M_wrongOnes
  refine it2_seq (fun i => wq pp th i) (fun i => nI i) 4 ?_ ?_ 1100 (by decide)
  · intro i hi r
    show bd_M_wrongOnes_4 _ _ _ r _ (nI i) = r (wq pp th (i + 1)) (nI (i + 1))
    unfold bd_M_wrongOnes_4
    rw [if_neg (show ¬ (4 : Int32) ≤ nI i from nI_ge hi (by decide)), bind_some' (one i hi), nI_1, wq_s]
    by_cases q : wb pp (th i) = true
    · rw [if_pos q, if_pos q, if_neg (by decide)]
    · rw [if_neg q, if_neg q, if_pos rfl, or0]
  · intro r
    show bd_M_wrongOnes_4 _ _ _ r _ (nI 4) = _
    unfold bd_M_wrongOnes_4
    rw [if_pos (show (4 : Int32) ≤ nI 4 from by decide)]
theorem wq4 (pp : Int32) (th : Nat → Int32) : wq pp th 4 = (fun b0 b1 b2 b3 : Bool => (fun x3 : Int32 => if b3 = true then x3 ||| ((1 : Int32) <<< (nI 3 &&& 31)) else x3) ((fun x2 : Int32 => if b2 = true then x2 ||| ((1 : Int32) <<< (nI 2 &&& 31)) else x2) ((fun x1 : Int32 => if b1 = true then x1 ||| ((1 : Int32) <<< (nI 1 &&& 31)) else x1) ((fun x0 : Int32 => if b0 = true then x0 ||| ((1 : Int32) <<< (nI 0 &&& 31)) else x0) 0)))) (wb pp (th 0)) (wb pp (th 1)) (wb pp (th 2)) (wb pp (th 3)) := rfl
theorem wq_lt (pp : Int32) (th : Nat → Int32) : ∃ b, b < 16 ∧ wq pp th 4 = nI b := by
  rw [wq4]
  cases wb pp (th 0) <;> cases wb pp (th 1) <;> cases wb pp (th 2) <;> cases wb pp (th 3) <;> exact wit16 (by decide)
/-- a bit test of who is wrong, as 'behind' asks it -/
theorem wq_bit (pp : Int32) (th : Nat → Int32) : ∀ w, w < 4 → ((wq pp th 4) >>> (nI w &&& 31)) &&& 1 = if wb pp (th w) = true then 1 else 0 := by
  rw [wq4]
  cases h0 : wb pp (th 0) <;> cases h1 : wb pp (th 1) <;> cases h2 : wb pp (th 2) <;> cases h3 : wb pp (th 3) <;> exact lt4 (by rw [h0]; decide) (by rw [h1]; decide) (by rw [h2]; decide) (by rw [h3]; decide)
