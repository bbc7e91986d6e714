/-! images: class and reference -/
def wr (c : Nat) (f kp : Nat → Int32) : Nat → Nat → Int32
  | 0 => kp
  | i + 1 => upd (wr c f kp i) (c + i) (f i)
theorem wr_at {c : Nat} {f kp : Nat → Int32} : ∀ {n i : Nat}, i < n → wr c f kp n (c + i) = f i := by
  intro n
  induction n with
  | zero => intro i hi; omega
  | succ n ih =>
    intro i hi
    show upd (wr c f kp n) (c + n) (f n) (c + i) = f i
    by_cases z : i = n
    · rw [z, upd_at]
    · rw [upd_ne (by omega)]; exact ih (by omega)
theorem wr_out {c : Nat} {f kp : Nat → Int32} : ∀ {n j : Nat}, j < c ∨ c + n ≤ j → wr c f kp n j = kp j := by
  intro n
  induction n with
  | zero => intro j _; rfl
  | succ n ih =>
    intro j hj
    show upd (wr c f kp n) (c + n) (f n) j = kp j
    rw [upd_ne (by omega)]; exact ih (by omega)
/-- one row passed, of n places -/
noncomputable def bdp (n : Nat) (x2 w : Int32) (r : Int32 → Int32 → (Nat → Int32) → (Nat → Int32) → Option (Int32 × (Nat → Int32) × (Nat → Int32))) (x3 ka : Int32) (v kp : Nat → Int32) : Option (Int32 × (Nat → Int32) × (Nat → Int32)) := (if x2 ≤ x3 then some (ka, v, kp) else kx n x3 ((f_M_pass (v (x3 : Int32).toNatClampNeg) ka w kp).bind (fun u => kx n x3 (r (x3 + 1) u.2.1 (upd v (x3 : Int32).toNatClampNeg u.1) u.2.2))))
theorem pass1 {c : Nat} (hc : c < 100) (x : Int32) (kp : Nat → Int32) : f_M_pass x (nI c) 1 kp = some (x, nI (c + 1), upd kp c x) := by
  unfold f_M_pass jn_M_pass_20
  rw [n10, kx_nI hc (by decide), nI_clamp (by omega), nI_1]
theorem pass0 {c : Nat} (hc : c < 100) (x : Int32) (kp : Nat → Int32) : f_M_pass x (nI c) 0 kp = some (kp c, nI (c + 1), kp) := by
  unfold f_M_pass jn_M_pass_20
  rw [y00, kx_nI hc (by decide), kx_nI hc (by decide), nI_clamp (by omega), nI_1, fa_upd_same rfl]
theorem row1 {n c : Nat} (hn : n < 100) (hc : c + n ≤ 100) (v kp : Nat → Int32) : it4 (bdp n (nI n) 1) 1100 0 (nI c) v kp = some (nI (c + n), v, wr c v kp n) := by
  refine it4_seq (F := bdp n (nI n) 1) (fun i => nI i) (fun i => nI (c + i)) (fun _ => v) (fun i => wr c v kp i) n ?_ ?_ 1100 (by omega)
  · intro i hi R
    show bdp n (nI n) 1 R (nI i) (nI (c + i)) v (wr c v kp i) = R (nI (i + 1)) (nI (c + i + 1)) v (upd (wr c v kp i) (c + i) (v i))
    unfold bdp
    rw [if_neg (nI_ge hi (by omega)), kx_nI hi (by omega), nI_clamp (by omega), bind_some' (pass1 (by omega) _ _), kx_nI hi (by omega), nI_1, fa_upd_same rfl]
  · intro R
    show bdp n (nI n) 1 R (nI n) (nI (c + n)) v (wr c v kp n) = _
    unfold bdp
    rw [if_pos (nI_le (Nat.le_refl n) (by omega))]
theorem row0 {n c : Nat} (hn : n < 100) (hc : c + n ≤ 100) (v kp : Nat → Int32) : it4 (bdp n (nI n) 0) 1100 0 (nI c) v kp = some (nI (c + n), fa_fill (fun i => kp (c + i)) v n, kp) := by
  have h0 : v = fa_fill (fun i => kp (c + i)) v 0 := (fa_fill_0 _ _).symm
  conv => lhs; rw [h0]
  refine it4_seq (F := bdp n (nI n) 0) (fun i => nI i) (fun i => nI (c + i)) (fun i => fa_fill (fun i => kp (c + i)) v i) (fun _ => kp) n ?_ ?_ 1100 (by omega)
  · intro i hi R
    show bdp n (nI n) 0 R (nI i) (nI (c + i)) (fa_fill (fun i => kp (c + i)) v i) kp = R (nI (i + 1)) (nI (c + i + 1)) (fa_fill (fun i => kp (c + i)) v (i + 1)) kp
    unfold bdp
    rw [if_neg (nI_ge hi (by omega)), kx_nI hi (by omega), nI_clamp (by omega), bind_some' (pass0 (by omega) _ _), kx_nI hi (by omega), nI_1, ← fa_fill_succ]
  · intro R
    show bdp n (nI n) 0 R (nI n) (nI (c + n)) _ kp = _
    unfold bdp
    rw [if_pos (nI_le (Nat.le_refl n) (by omega))]
/-- what the reference keeps of an image, from c on -/
def KR (c : Nat) (kp : Nat → Int32) (hid rd sc : Int32) (rw_ ey co th s1 s2 s3 : Nat → Int32) : Prop := kp c = hid ∧ kp (c + 1) = rd ∧ kp (c + 2) = sc ∧ (∀ i, i < 6 → kp (c + 3 + i) = rw_ i) ∧ (∀ i, i < 4 → kp (c + 9 + i) = ey i) ∧ (∀ i, i < 4 → kp (c + 13 + i) = co i) ∧ (∀ i, i < 4 → kp (c + 17 + i) = th i) ∧ (∀ i, i < 8 → kp (c + 21 + i) = s1 i) ∧ (∀ i, i < 8 → kp (c + 29 + i) = s2 i) ∧ (∀ i, i < 8 → kp (c + 37 + i) = s3 i)
theorem KR.cong {c : Nat} {kp kp' : Nat → Int32} {hid rd sc : Int32} {rw_ ey co th s1 s2 s3 : Nat → Int32} (h : KR c kp hid rd sc rw_ ey co th s1 s2 s3) (he : ∀ j, c ≤ j → j < c + 45 → kp' j = kp j) : KR c kp' hid rd sc rw_ ey co th s1 s2 s3 := by
  obtain ⟨a1, a2, a3, a4, a5, a6, a7, a8, a9, a10⟩ := h
  refine ⟨by rw [he _ (by omega) (by omega)]; exact a1, by rw [he _ (by omega) (by omega)]; exact a2, by rw [he _ (by omega) (by omega)]; exact a3, fun i hi => ?_, fun i hi => ?_, fun i hi => ?_, fun i hi => ?_, fun i hi => ?_, fun i hi => ?_, fun i hi => ?_⟩
  · rw [he _ (by omega) (by omega)]; exact a4 i hi
  · rw [he _ (by omega) (by omega)]; exact a5 i hi
  · rw [he _ (by omega) (by omega)]; exact a6 i hi
  · rw [he _ (by omega) (by omega)]; exact a7 i hi
  · rw [he _ (by omega) (by omega)]; exact a8 i hi
  · rw [he _ (by omega) (by omega)]; exact a9 i hi
  · rw [he _ (by omega) (by omega)]; exact a10 i hi
theorem passAll1 {c : Nat} (hc : c + 45 ≤ 100) (hid rd sc : Int32) (rw_ ey co th s1 s2 s3 kp : Nat → Int32) : ∃ K, f_M_passAll hid rd sc (nI c) 1 rw_ ey co th s1 s2 s3 kp = some (hid, rd, sc, nI (c + 45), rw_, ey, co, th, s1, s2, s3, K) ∧ KR c K hid rd sc rw_ ey co th s1 s2 s3 ∧ ∀ j, j < c ∨ c + 45 ≤ j → K j = kp j := by
  refine ⟨wr (c + 37) s3 (wr (c + 29) s2 (wr (c + 21) s1 (wr (c + 17) th (wr (c + 13) co (wr (c + 9) ey (wr (c + 3) rw_ (upd (upd (upd kp c hid) (c + 1) rd) (c + 2) sc) 6) 4) 4) 4) 8) 8) 8, ?_, ?_, ?_⟩
  · unfold f_M_passAll
    rw [bind_some' (pass1 (by omega) _ _), bind_some' (pass1 (by omega) _ _), bind_some' (pass1 (by omega) _ _)]
    rw [bind_some' (show f_M_passRow_on 6 (nI (c + 3)) 1 rw_ _ = _ from row1 (n := 6) (by omega) (by omega) rw_ _)]
    rw [bind_some' (show f_M_passRow_eyes 4 (nI (c + 9)) 1 ey _ = _ from row1 (n := 4) (by omega) (by omega) ey _)]
    rw [bind_some' (show f_M_passRow_coin 4 (nI (c + 13)) 1 co _ = _ from row1 (n := 4) (by omega) (by omega) co _)]
    rw [bind_some' (show f_M_passRow_thinks 4 (nI (c + 17)) 1 th _ = _ from row1 (n := 4) (by omega) (by omega) th _)]
    rw [bind_some' (show f_M_passRow_sightOne 8 (nI (c + 21)) 1 s1 _ = _ from row1 (n := 8) (by omega) (by omega) s1 _)]
    rw [bind_some' (show f_M_passRow_sightOther 8 (nI (c + 29)) 1 s2 _ = _ from row1 (n := 8) (by omega) (by omega) s2 _)]
    rw [bind_some' (show f_M_passRow_sightIs 8 (nI (c + 37)) 1 s3 _ = _ from row1 (n := 8) (by omega) (by omega) s3 _)]
  · refine ⟨?_, ?_, ?_, fun i hi => ?_, fun i hi => ?_, fun i hi => ?_, fun i hi => ?_, fun i hi => ?_, fun i hi => ?_, fun i hi => ?_⟩
    · rw [wr_out (by omega), wr_out (by omega), wr_out (by omega), wr_out (by omega), wr_out (by omega), wr_out (by omega), wr_out (by omega), upd_ne (by omega), upd_ne (by omega), upd_at]
    · rw [wr_out (by omega), wr_out (by omega), wr_out (by omega), wr_out (by omega), wr_out (by omega), wr_out (by omega), wr_out (by omega), upd_ne (by omega), upd_at]
    · rw [wr_out (by omega), wr_out (by omega), wr_out (by omega), wr_out (by omega), wr_out (by omega), wr_out (by omega), wr_out (by omega), upd_at]
    · rw [wr_out (by omega), wr_out (by omega), wr_out (by omega), wr_out (by omega), wr_out (by omega), wr_out (by omega), wr_at hi]
    · rw [wr_out (by omega), wr_out (by omega), wr_out (by omega), wr_out (by omega), wr_out (by omega), wr_at hi]
    · rw [wr_out (by omega), wr_out (by omega), wr_out (by omega), wr_out (by omega), wr_at hi]
    · rw [wr_out (by omega), wr_out (by omega), wr_out (by omega), wr_at hi]
    · rw [wr_out (by omega), wr_out (by omega), wr_at hi]
    · rw [wr_out (by omega), wr_at hi]
    · rw [wr_at hi]
  · intro j hj
    rw [wr_out (by omega), wr_out (by omega), wr_out (by omega), wr_out (by omega), wr_out (by omega), wr_out (by omega), wr_out (by omega), upd_ne (by omega), upd_ne (by omega), upd_ne (by omega)]
theorem fill_of {n : Nat} {f g h : Nat → Int32} (he : ∀ i, i < n → f i = g i) (hg : Zn n g) (hh : Zn n h) : fa_fill f h n = g := by
  funext j
  by_cases z : j < n
  · rw [fa_fill_in z]; exact he j z
  · rw [fa_fill_out (by omega), hh j (by omega), hg j (by omega)]
theorem passAll0 {c : Nat} (hc : c + 45 ≤ 100) {hid rd sc hid' rd' sc' : Int32} {rw_ ey co th s1 s2 s3 rw' ey' co' th' s1' s2' s3' kp : Nat → Int32} (hK : KR c kp hid rd sc rw_ ey co th s1 s2 s3) (z : Zn 6 rw_ ∧ Zn 4 ey ∧ Zn 4 co ∧ Zn 4 th ∧ Zn 8 s1 ∧ Zn 8 s2 ∧ Zn 8 s3) (z' : Zn 6 rw' ∧ Zn 4 ey' ∧ Zn 4 co' ∧ Zn 4 th' ∧ Zn 8 s1' ∧ Zn 8 s2' ∧ Zn 8 s3') : f_M_passAll hid' rd' sc' (nI c) 0 rw' ey' co' th' s1' s2' s3' kp = some (hid, rd, sc, nI (c + 45), rw_, ey, co, th, s1, s2, s3, kp) := by
  obtain ⟨a1, a2, a3, a4, a5, a6, a7, a8, a9, a10⟩ := hK
  obtain ⟨b1, b2, b3, b4, b5, b6, b7⟩ := z
  obtain ⟨d1, d2, d3, d4, d5, d6, d7⟩ := z'
  unfold f_M_passAll
  rw [bind_some' (pass0 (by omega) _ _), bind_some' (pass0 (by omega) _ _), bind_some' (pass0 (by omega) _ _)]
  rw [bind_some' (show f_M_passRow_on 6 (nI (c + 3)) 0 rw' kp = _ from row0 (n := 6) (by omega) (by omega) rw' kp)]
  rw [bind_some' (show f_M_passRow_eyes 4 (nI (c + 9)) 0 ey' kp = _ from row0 (n := 4) (by omega) (by omega) ey' kp)]
  rw [bind_some' (show f_M_passRow_coin 4 (nI (c + 13)) 0 co' kp = _ from row0 (n := 4) (by omega) (by omega) co' kp)]
  rw [bind_some' (show f_M_passRow_thinks 4 (nI (c + 17)) 0 th' kp = _ from row0 (n := 4) (by omega) (by omega) th' kp)]
  rw [bind_some' (show f_M_passRow_sightOne 8 (nI (c + 21)) 0 s1' kp = _ from row0 (n := 8) (by omega) (by omega) s1' kp)]
  rw [bind_some' (show f_M_passRow_sightOther 8 (nI (c + 29)) 0 s2' kp = _ from row0 (n := 8) (by omega) (by omega) s2' kp)]
  rw [bind_some' (show f_M_passRow_sightIs 8 (nI (c + 37)) 0 s3' kp = _ from row0 (n := 8) (by omega) (by omega) s3' kp)]
  dsimp only
  rw [fill_of a4 b1 d1, fill_of a5 b2 d2, fill_of a6 b3 d3, fill_of a7 b4 d4, fill_of a8 b5 d5, fill_of a9 b6 d6, fill_of a10 b7 d7, a1, show kp (c + 1) = rd from a2, show kp (c + 1 + 1) = sc from a3]
/-- an image of the class, and what the reference keeps -/
def IMG (c : Nat) (kc o pc rd : Int32) (ey co th : Nat → Int32) (sc : Int32) (s1 s2 s3 kp : Nat → Int32) (fl : Int32) : Prop := fl = kc ∧ (Zn 4 ey ∧ Zn 4 co ∧ Zn 4 th) ∧ (Zn 8 s1 ∧ Zn 8 s2 ∧ Zn 8 s3) ∧ (kc = 0 ∨ (kc = 1 ∧ ∃ (rw_ : Nat → Int32) (hid : Int32), TT o pc rd ey co th rw_ hid ∧ SIG sc s1 s2 s3 ∧ KR c kp hid rd sc rw_ ey co th s1 s2 s3))
theorem IMG.cong {c : Nat} {kc o pc rd : Int32} {ey co th : Nat → Int32} {sc : Int32} {s1 s2 s3 kp kp' : Nat → Int32} {fl : Int32} (h : IMG c kc o pc rd ey co th sc s1 s2 s3 kp fl) (he : ∀ j, c ≤ j → j < c + 45 → kp' j = kp j) : IMG c kc o pc rd ey co th sc s1 s2 s3 kp' fl := by
  obtain ⟨h1, h2, h3, h4⟩ := h
  refine ⟨h1, h2, h3, ?_⟩
  rcases h4 with h4 | ⟨h4, r, hd, h5, h6, h7⟩
  · exact Or.inl h4
  · exact Or.inr ⟨h4, r, hd, h5, h6, h7.cong he⟩
theorem copyS_eq {a a' : Int32} {x y z x' y' z' : Nat → Int32} (hx : Zn 8 x) (hy : Zn 8 y) (hz : Zn 8 z) (hx' : Zn 8 x') (hy' : Zn 8 y') (hz' : Zn 8 z') : f_S_copyFrom a x y z a' x' y' z' = some (a', x', y', z') := by
  have h : f_S_copyFrom a x y z a' x' y' z' = some (a', upd (upd (upd (upd (upd (upd (upd (upd x 0 (x' 0)) 1 (x' 1)) 2 (x' 2)) 3 (x' 3)) 4 (x' 4)) 5 (x' 5)) 6 (x' 6)) 7 (x' 7), upd (upd (upd (upd (upd (upd (upd (upd y 0 (y' 0)) 1 (y' 1)) 2 (y' 2)) 3 (y' 3)) 4 (y' 4)) 5 (y' 5)) 6 (y' 6)) 7 (y' 7), upd (upd (upd (upd (upd (upd (upd (upd z 0 (z' 0)) 1 (z' 1)) 2 (z' 2)) 3 (z' 3)) 4 (z' 4)) 5 (z' 5)) 6 (z' 6)) 7 (z' 7)) := rfl
  rw [h, upd8, upd8, upd8, fill_eq hx' hx, fill_eq hy' hy, fill_eq hz' hz]
section IM
variable {o pc rd hid sc : Int32} {ey co th rw_ s1 s2 s3 : Nat → Int32} {ka iw : Int32} {kp fl : Nat → Int32}
  {j0 j1 j2 j3 : Int32} {j4 j5 j6 : Nat → Int32} {j7 : Int32} {j8 j9 ja : Nat → Int32}
  {l0 l1 l2 l3 : Int32} {l4 l5 l6 : Nat → Int32} {l7 : Int32} {l8 l9 la : Nat → Int32}
theorem op_image (p1 : Int32) (hT : TT o pc rd ey co th rw_ hid) (hS : SIG sc s1 s2 s3) (h0 : IMG 0 j0 j1 j2 j3 j4 j5 j6 j7 j8 j9 ja kp (fl 0)) (h1 : IMG 50 l0 l1 l2 l3 l4 l5 l6 l7 l8 l9 la kp (fl 1)) :
    ∃ (r j0' j1' j2' j3' : Int32) (j4' j5' j6' : Nat → Int32) (j7' : Int32) (j8' j9' ja' : Nat → Int32) (l0' l1' l2' l3' : Int32) (l4' l5' l6' : Nat → Int32) (l7' : Int32) (l8' l9' la' : Nat → Int32) (ka' iw' : Int32) (kp' fl' : Nat → Int32),
      f_C_image p1 o pc rd ey co th sc s1 s2 s3 j0 j1 j2 j3 j4 j5 j6 j7 j8 j9 ja l0 l1 l2 l3 l4 l5 l6 l7 l8 l9 la = some (r, j0', j1', j2', j3', j4', j5', j6', j7', j8', j9', ja', l0', l1', l2', l3', l4', l5', l6', l7', l8', l9', la') ∧
      f_M_image p1 hid rd sc ka iw rw_ ey co th s1 s2 s3 kp fl = some (r, hid, rd, sc, ka', iw', rw_, ey, co, th, s1, s2, s3, kp', fl') ∧ IMG 0 j0' j1' j2' j3' j4' j5' j6' j7' j8' j9' ja' kp' (fl' 0) ∧ IMG 50 l0' l1' l2' l3' l4' l5' l6' l7' l8' l9' la' kp' (fl' 1) := by
  have i1 := inL_eq p1 (lo := 0) (hi := 1) (by decide) (by decide)
  obtain ⟨-, ze, zc, zt⟩ := hT.zs
  obtain ⟨-, z1, z2, z3⟩ := id hS
  unfold f_C_image f_M_image
  rcases within_cases p1 (lo := 0) (hi := 1) (by decide) (by decide) with ⟨n, -, hn, rfl, w⟩ | w
  · rw [w] at i1
    rw [bind_some' (show f_C_isWithin (nI n) 0 1 = some 1 from w), bind_some' (show f_M_in (Int32.toInt64 (nI n)) 0 1 = some 1 from i1), n10, n10]
    have hn2 : n = 0 ∨ n = 1 := by omega
    rcases hn2 with rfl | rfl
    · obtain ⟨K, hK1, hK2, hK3⟩ := passAll1 (c := 0) (by omega) hid rd sc rw_ ey co th s1 s2 s3 kp
      have hk : f_I_keep j0 j1 j2 j3 j4 j5 j6 j7 j8 j9 ja o pc rd ey co th sc s1 s2 s3 = some (1, o, pc, rd, ey, co, th, sc, s1, s2, s3) := by
        unfold f_I_keep
        rw [bind_some' (copyFrom_eq h0.2.1.1 h0.2.1.2.1 h0.2.1.2.2 ze zc zt), bind_some' (copyS_eq h0.2.2.1.1 h0.2.2.1.2.1 h0.2.2.1.2.2 z1 z2 z3)]
      rw [if_pos (show nI 0 = 0 from rfl), bind_some' hk, bind_some' (show f_M_passAll hid rd sc (50 * nI 0) 1 rw_ ey co th s1 s2 s3 kp = _ from hK1), kx_nI (show 0 < 2 by decide) (by decide), nI_clamp (by decide)]
      exact ⟨_, _, _, _, _, _, _, _, _, _, _, _, _, _, _, _, _, _, _, _, _, _, _, _, _, _, _, rfl, rfl, ⟨rfl, ⟨ze, zc, zt⟩, ⟨z1, z2, z3⟩, Or.inr ⟨rfl, rw_, hid, hT, hS, hK2⟩⟩, h1.cong (fun j a b => hK3 j (by omega))⟩
    · obtain ⟨K, hK1, hK2, hK3⟩ := passAll1 (c := 50) (by omega) hid rd sc rw_ ey co th s1 s2 s3 kp
      have hk : f_I_keep l0 l1 l2 l3 l4 l5 l6 l7 l8 l9 la o pc rd ey co th sc s1 s2 s3 = some (1, o, pc, rd, ey, co, th, sc, s1, s2, s3) := by
        unfold f_I_keep
        rw [bind_some' (copyFrom_eq h1.2.1.1 h1.2.1.2.1 h1.2.1.2.2 ze zc zt), bind_some' (copyS_eq h1.2.2.1.1 h1.2.2.1.2.1 h1.2.2.1.2.2 z1 z2 z3)]
      rw [if_neg (show ¬ nI 1 = 0 by decide), if_pos (show nI 1 = 1 from rfl), bind_some' hk, bind_some' (show f_M_passAll hid rd sc (50 * nI 1) 1 rw_ ey co th s1 s2 s3 kp = _ from hK1), kx_nI (show 1 < 2 by decide) (by decide), nI_clamp (by decide)]
      exact ⟨_, _, _, _, _, _, _, _, _, _, _, _, _, _, _, _, _, _, _, _, _, _, _, _, _, _, _, rfl, rfl, h0.cong (fun j a b => hK3 j (by omega)), ⟨rfl, ⟨ze, zc, zt⟩, ⟨z1, z2, z3⟩, Or.inr ⟨rfl, rw_, hid, hT, hS, hK2⟩⟩⟩
  · rw [w] at i1
    rw [bind_some' (show f_C_isWithin p1 0 1 = some 0 from w), bind_some' (show f_M_in (Int32.toInt64 p1) 0 1 = some 0 from i1), y00, y00]
    exact ⟨_, _, _, _, _, _, _, _, _, _, _, _, _, _, _, _, _, _, _, _, _, _, _, _, _, _, _, rfl, rfl, h0, h1⟩
theorem op_restore (p1 : Int32) (hT : TT o pc rd ey co th rw_ hid) (hS : SIG sc s1 s2 s3) (h0 : IMG 0 j0 j1 j2 j3 j4 j5 j6 j7 j8 j9 ja kp (fl 0)) (h1 : IMG 50 l0 l1 l2 l3 l4 l5 l6 l7 l8 l9 la kp (fl 1)) :
    ∃ (r o' pc' rd' : Int32) (ey' co' th' : Nat → Int32) (sc' : Int32) (s1' s2' s3' : Nat → Int32) (hid' : Int32) (rw' : Nat → Int32) (ka' iw' : Int32),
      f_C_restore p1 o pc rd ey co th sc s1 s2 s3 j0 j1 j2 j3 j4 j5 j6 j7 j8 j9 ja l0 l1 l2 l3 l4 l5 l6 l7 l8 l9 la = some (r, o', pc', rd', ey', co', th', sc', s1', s2', s3') ∧
      f_M_restore p1 hid rd sc ka iw rw_ ey co th s1 s2 s3 kp fl = some (r, hid', rd', sc', ka', iw', rw', ey', co', th', s1', s2', s3', kp) ∧ TT o' pc' rd' ey' co' th' rw' hid' ∧ SIG sc' s1' s2' s3' := by
  have i1 := inL_eq p1 (lo := 0) (hi := 1) (by decide) (by decide)
  obtain ⟨z6, ze, zc, zt⟩ := hT.zs
  obtain ⟨-, z1, z2, z3⟩ := id hS
  unfold f_C_restore f_M_restore
  rcases within_cases p1 (lo := 0) (hi := 1) (by decide) (by decide) with ⟨n, -, hn, rfl, w⟩ | w
  · rw [w] at i1
    rw [bind_some' (show f_C_isWithin (nI n) 0 1 = some 1 from w), bind_some' (show f_M_in (Int32.toInt64 (nI n)) 0 1 = some 1 from i1), n10, n10, kx_nI (show n < 2 by omega) (by decide), nI_clamp (by omega)]
    have hn2 : n = 0 ∨ n = 1 := by omega
    rcases hn2 with rfl | rfl
    · obtain ⟨e0, ⟨ye, yc, yt⟩, ⟨y1, y2, y3⟩, hc⟩ := h0
      rw [if_pos (show nI 0 = 0 from rfl), e0]
      rcases hc with rfl | ⟨rfl, r', hd', hT', hS', hK'⟩
      · rw [y00, y00]
        exact ⟨_, _, _, _, _, _, _, _, _, _, _, _, _, _, _, rfl, rfl, hT, hS⟩
      · obtain ⟨q6, -, -, -⟩ := hT'.zs
        have hk : f_I_bringBack j1 j2 j3 j4 j5 j6 j7 j8 j9 ja o pc rd ey co th sc s1 s2 s3 = some (j1, j2, j3, j4, j5, j6, j7, j8, j9, ja) := by
          unfold f_I_bringBack
          rw [bind_some' (copyFrom_eq ze zc zt ye yc yt), bind_some' (copyS_eq z1 z2 z3 y1 y2 y3)]
        rw [n10, n10, if_pos (show nI 0 = 0 from rfl), bind_some' hk, bind_some' (show f_M_passAll hid rd sc (50 * nI 0) 0 rw_ ey co th s1 s2 s3 kp = _ from passAll0 (c := 0) (by omega) hK' ⟨q6, ye, yc, yt, y1, y2, y3⟩ ⟨z6, ze, zc, zt, z1, z2, z3⟩)]
        exact ⟨_, _, _, _, _, _, _, _, _, _, _, _, _, _, _, rfl, rfl, hT', hS'⟩
    · obtain ⟨e0, ⟨ye, yc, yt⟩, ⟨y1, y2, y3⟩, hc⟩ := h1
      rw [if_neg (show ¬ nI 1 = 0 by decide), if_pos (show nI 1 = 1 from rfl), e0]
      rcases hc with rfl | ⟨rfl, r', hd', hT', hS', hK'⟩
      · rw [y00, y00]
        exact ⟨_, _, _, _, _, _, _, _, _, _, _, _, _, _, _, rfl, rfl, hT, hS⟩
      · obtain ⟨q6, -, -, -⟩ := hT'.zs
        have hk : f_I_bringBack l1 l2 l3 l4 l5 l6 l7 l8 l9 la o pc rd ey co th sc s1 s2 s3 = some (l1, l2, l3, l4, l5, l6, l7, l8, l9, la) := by
          unfold f_I_bringBack
          rw [bind_some' (copyFrom_eq ze zc zt ye yc yt), bind_some' (copyS_eq z1 z2 z3 y1 y2 y3)]
        rw [n10, n10, if_neg (show ¬ nI 1 = 0 by decide), if_pos (show nI 1 = 1 from rfl), bind_some' hk, bind_some' (show f_M_passAll hid rd sc (50 * nI 1) 0 rw_ ey co th s1 s2 s3 kp = _ from passAll0 (c := 50) (by omega) hK' ⟨q6, ye, yc, yt, y1, y2, y3⟩ ⟨z6, ze, zc, zt, z1, z2, z3⟩)]
        exact ⟨_, _, _, _, _, _, _, _, _, _, _, _, _, _, _, rfl, rfl, hT', hS'⟩
  · rw [w] at i1
    rw [bind_some' (show f_C_isWithin p1 0 1 = some 0 from w), bind_some' (show f_M_in (Int32.toInt64 p1) 0 1 = some 0 from i1), y00, y00]
    exact ⟨_, _, _, _, _, _, _, _, _, _, _, _, _, _, _, rfl, rfl, hT, hS⟩
end IM
