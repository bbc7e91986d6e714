/-! the text of the rounds: sign by sign, class and reference -/
theorem within_nI {s lo hi : Nat} (hs : s < 2 ^ 31) (hl : lo < 2 ^ 31) (hh : hi < 2 ^ 31) : f_C_isWithin (nI s) (nI lo) (nI hi) = some (if lo ≤ s ∧ s ≤ hi then 1 else 0) := by
  unfold f_C_isWithin
  by_cases h1 : s < lo
  · rw [if_pos (nI_lt h1 hl), if_neg (by omega)]
  · rw [if_neg (nI_nlt (by omega) hs)]
    by_cases h2 : hi < s
    · rw [if_pos (nI_lt h2 hs), if_neg (by omega)]
    · rw [if_neg (nI_nlt (by omega) hh), if_pos (by omega)]
def lenN (s : Nat) : Nat := if s = 46 then 1 else if s = 104 then 2 else if s = 108 then 2 else if s = 115 then 4 else if 65 ≤ s ∧ s ≤ 68 then 3 else 0
def d6 (s : Nat) : Nat := if 48 ≤ s ∧ s ≤ 53 then 1 else 0
def d9 (s : Nat) : Nat := if 49 ≤ s ∧ s ≤ 57 then 1 else 0
def lt4N (s : Nat) : Nat := if 65 ≤ s ∧ s ≤ 68 then 1 else 0
theorem sign_chk : ((List.range 127).all fun s => decide (f_D_lengthOf (nI s) = some (nI (lenN s))) && decide (f_D_isFitting (nI s) 1 4 = some (nI (d6 s))) && decide (f_D_isFitting (nI s) 2 4 = some (nI (d6 s))) && decide (f_D_isFitting (nI s) 3 4 = some (nI (d9 s))) && decide (f_D_isFitting (nI s) 1 2 = some (nI (d6 s))) && decide (f_D_isFitting (nI s) 1 3 = some (nI (d6 s))) && decide (f_D_isFitting (nI s) 2 3 = some (nI (d9 s))) && decide (f_M_isPlace (nI s - 48) = some (nI (d6 s))) && decide (f_M_in (Int32.toInt64 (nI s - 48)) 1 9 = some (nI (d9 s))) && decide (f_M_in (Int32.toInt64 (nI s)) 65 68 = some (nI (lt4N s)))) = true := by decide +kernel
theorem sign_f {s : Nat} (hs : s < 127) : f_D_lengthOf (nI s) = some (nI (lenN s)) ∧ f_D_isFitting (nI s) 1 4 = some (nI (d6 s)) ∧ f_D_isFitting (nI s) 2 4 = some (nI (d6 s)) ∧ f_D_isFitting (nI s) 3 4 = some (nI (d9 s)) ∧ f_D_isFitting (nI s) 1 2 = some (nI (d6 s)) ∧ f_D_isFitting (nI s) 1 3 = some (nI (d6 s)) ∧ f_D_isFitting (nI s) 2 3 = some (nI (d9 s)) ∧ f_M_isPlace (nI s - 48) = some (nI (d6 s)) ∧ f_M_in (Int32.toInt64 (nI s - 48)) 1 9 = some (nI (d9 s)) ∧ f_M_in (Int32.toInt64 (nI s)) 65 68 = some (nI (lt4N s)) := by
  have h := all_lt sign_chk hs
  simp only [Bool.and_eq_true, decide_eq_true_eq] at h
  obtain ⟨⟨⟨⟨⟨⟨⟨⟨⟨h1, h2⟩, h3⟩, h4⟩, h5⟩, h6⟩, h7⟩, h8⟩, h9⟩, h10⟩ := h
  exact ⟨h1, h2, h3, h4, h5, h6, h7, h8, h9, h10⟩
/-- the text at p spells an act of L signs -/
def ACT (sg : Nat → Int32) (p L : Nat) (w a b v : Int32) : Prop :=
  (sg p = 115 ∧ L = 4 ∧ w = 0 ∧ ∃ i j q, i < 6 ∧ j < 6 ∧ 1 ≤ q ∧ q ≤ 9 ∧ sg (p + 1) = nI (48 + i) ∧ sg (p + 2) = nI (48 + j) ∧ sg (p + 3) = nI (48 + q) ∧ a = nI i ∧ b = nI j ∧ v = nI q) ∨
  (sg p = 108 ∧ L = 2 ∧ w = 1 ∧ ∃ i, i < 6 ∧ sg (p + 1) = nI (48 + i) ∧ a = nI i) ∨
  (sg p = 104 ∧ L = 2 ∧ w = 2 ∧ ∃ i, i < 6 ∧ sg (p + 1) = nI (48 + i) ∧ a = nI i) ∨
  (∃ l i q, l < 4 ∧ i < 6 ∧ 1 ≤ q ∧ q ≤ 9 ∧ sg p = nI (65 + l) ∧ L = 3 ∧ w = 3 ∧ sg (p + 1) = nI (48 + i) ∧ sg (p + 2) = nI (48 + q) ∧ a = nI l ∧ b = nI i ∧ v = nI q) ∨
  (sg p = 46 ∧ L = 1 ∧ w = 4)
/-- in the midst of an act that began at P: the reference's state q, the class's head and offset, what the reference has noted -/
def ST (sg : Nat → Int32) (P q : Nat) (hd of a b : Int32) : Prop :=
  (q = 0 ∧ of = 0) ∨ (q = 1 ∧ hd = 115 ∧ of = 1 ∧ sg P = 115) ∨ (q = 2 ∧ hd = 115 ∧ of = 2 ∧ sg P = 115 ∧ ∃ i, i < 6 ∧ sg (P + 1) = nI (48 + i) ∧ a = nI i) ∨
  (q = 3 ∧ hd = 115 ∧ of = 3 ∧ sg P = 115 ∧ ∃ i j, i < 6 ∧ j < 6 ∧ sg (P + 1) = nI (48 + i) ∧ sg (P + 2) = nI (48 + j) ∧ a = nI i ∧ b = nI j) ∨
  (q = 4 ∧ hd = 108 ∧ of = 1 ∧ sg P = 108) ∨ (q = 5 ∧ hd = 104 ∧ of = 1 ∧ sg P = 104) ∨ (q = 6 ∧ of = 1 ∧ ∃ l, l < 4 ∧ hd = nI (65 + l) ∧ sg P = nI (65 + l) ∧ a = nI l) ∨
  (q = 7 ∧ of = 2 ∧ ∃ l i, l < 4 ∧ i < 6 ∧ hd = nI (65 + l) ∧ sg P = nI (65 + l) ∧ sg (P + 1) = nI (48 + i) ∧ a = nI l ∧ b = nI i)
def offq (q : Nat) : Nat := ([0, 1, 2, 3, 1, 1, 1, 2] : List Nat).getD q 0
/-- n acts stand in the reference's rows, spelled one behind another from 0 on -/
def DONE (sg : Nat → Int32) (n : Nat) (pos : Nat → Nat) (ac on ot mu : Nat → Int32) : Prop := pos 0 = 0 ∧ ∀ e, e < n → ∃ L, 1 ≤ L ∧ pos (e + 1) = pos e + L ∧ ACT sg (pos e) L (ac e) (on e) (ot e) (mu e)
theorem DONE.le {sg : Nat → Int32} {n : Nat} {pos : Nat → Nat} {ac on ot mu : Nat → Int32} (h : DONE sg n pos ac on ot mu) : ∀ e, e ≤ n → e ≤ pos e := by
  intro e
  induction e with
  | zero => intro _; omega
  | succ e ih =>
    intro he
    obtain ⟨L, h1, h2, -⟩ := h.2 e (by omega)
    have := ih (by omega)
    omega
theorem DONE.congr {sg : Nat → Int32} {n : Nat} {pos : Nat → Nat} {ac on ot mu ac' on' ot' mu' : Nat → Int32} (h : DONE sg n pos ac on ot mu) (h1 : ∀ e, e < n → ac' e = ac e) (h2 : ∀ e, e < n → on' e = on e) (h3 : ∀ e, e < n → ot' e = ot e) (h4 : ∀ e, e < n → mu' e = mu e) : DONE sg n pos ac' on' ot' mu' := by
  refine ⟨h.1, fun e he => ?_⟩
  rw [h1 e he, h2 e he, h3 e he, h4 e he]
  exact h.2 e he
theorem DONE.push {sg : Nat → Int32} {n L : Nat} {pos : Nat → Nat} {ac on ot mu : Nat → Int32} (h : DONE sg n pos ac on ot mu) (hL : 1 ≤ L) (hA : ACT sg (pos n) L (ac n) (on n) (ot n) (mu n)) : ∃ pos', DONE sg (n + 1) pos' ac on ot mu ∧ pos' (n + 1) = pos n + L := by
  obtain ⟨pos', k1, k2⟩ : ∃ pos' : Nat → Nat, (∀ e, e ≤ n → pos' e = pos e) ∧ pos' (n + 1) = pos n + L := ⟨fun e => if e ≤ n then pos e else pos n + L, fun e he => if_pos he, if_neg (by omega)⟩
  refine ⟨pos', ⟨by rw [k1 0 (by omega)]; exact h.1, fun e he => ?_⟩, k2⟩
  by_cases z : e < n
  · rw [k1 e (by omega), k1 (e + 1) (by omega)]; exact h.2 e z
  · have : e = n := by omega
    subst this
    rw [k1 e (by omega), k2]
    exact ⟨L, hL, rfl, hA⟩
theorem upd_lt {f : Nat → Int32} {n : Nat} {x : Int32} : ∀ e, e < n → upd f n x e = f e := fun e he => upd_ne (by omega)
theorem same_lt {f : Nat → Int32} {n : Nat} : ∀ e, e < n → f e = f e := fun _ _ => rfl
theorem cb_open {cnt p : Nat} {sg : Nat → Int32} {r : Int32 → Int32 → Int32 → Option Int32} {hd of : Int32} (hp : p < cnt) (hc : cnt ≤ 60) : bd_D_faultPlace_6 (nI cnt) sg r hd of (nI p) = if of = 0 then jn_D_faultPlace_35 r (sg p) of (nI p) (sg p) (nI cnt) sg else jn_D_faultPlace_35 r hd of (nI p) (sg p) (nI cnt) sg := by
  unfold bd_D_faultPlace_6
  rw [if_neg (nI_ge hp (by omega)), if_neg (show ¬ (60 : Int32) ≤ nI p from nI_ge (b := 60) (by omega) (by decide)), kx_nI (by omega) (by decide), nI_clamp (by omega)]
theorem sub48 (i : Nat) : nI (48 + i) - 48 = nI i := by
  rw [show (48 : Int32) = nI 48 from rfl, pk_sub (by omega)]
  congr 1
  omega
section TX
variable {n : Nat} {s : Int32} {ac on ot mu : Nat → Int32} {r : Int32 → Int32 → Int32 → Option Int32} {P C : Int32} {sg : Nat → Int32}
theorem rM0_104 (hn : n < 60) : f_M_readOn 0 104 (nI n) ac on ot mu = some (5, nI n, ac, upd on n 0, upd ot n 0, upd mu n 0) := by
  have e : f_M_readOn 0 104 (nI n) ac on ot mu = (kx 60 (nI n) (kx 60 (nI n) (kx 60 (nI n) (some (5, nI n, ac, upd on (nI n).toNatClampNeg 0, upd ot (nI n).toNatClampNeg 0, upd mu (nI n).toNatClampNeg 0))))).bind (fun u => some (u.1, u.2.1, u.2.2.1, u.2.2.2.1, u.2.2.2.2.1, u.2.2.2.2.2)) := rfl
  rw [e, kx_nI hn (by decide), kx_nI hn (by decide), kx_nI hn (by decide), nI_clamp (by omega)]
  rfl
theorem rM0_108 (hn : n < 60) : f_M_readOn 0 108 (nI n) ac on ot mu = some (4, nI n, ac, upd on n 0, upd ot n 0, upd mu n 0) := by
  have e : f_M_readOn 0 108 (nI n) ac on ot mu = (kx 60 (nI n) (kx 60 (nI n) (kx 60 (nI n) (some (4, nI n, ac, upd on (nI n).toNatClampNeg 0, upd ot (nI n).toNatClampNeg 0, upd mu (nI n).toNatClampNeg 0))))).bind (fun u => some (u.1, u.2.1, u.2.2.1, u.2.2.2.1, u.2.2.2.2.1, u.2.2.2.2.2)) := rfl
  rw [e, kx_nI hn (by decide), kx_nI hn (by decide), kx_nI hn (by decide), nI_clamp (by omega)]
  rfl
theorem rM0_115 (hn : n < 60) : f_M_readOn 0 115 (nI n) ac on ot mu = some (1, nI n, ac, upd on n 0, upd ot n 0, upd mu n 0) := by
  have e : f_M_readOn 0 115 (nI n) ac on ot mu = (kx 60 (nI n) (kx 60 (nI n) (kx 60 (nI n) (some (1, nI n, ac, upd on (nI n).toNatClampNeg 0, upd ot (nI n).toNatClampNeg 0, upd mu (nI n).toNatClampNeg 0))))).bind (fun u => some (u.1, u.2.1, u.2.2.1, u.2.2.2.1, u.2.2.2.2.1, u.2.2.2.2.2)) := rfl
  rw [e, kx_nI hn (by decide), kx_nI hn (by decide), kx_nI hn (by decide), nI_clamp (by omega)]
  rfl
theorem rM0_46 (hn : n < 60) : f_M_readOn 0 46 (nI n) ac on ot mu = some (0, nI (n + 1), upd ac n 4, upd on n 0, upd ot n 0, upd mu n 0) := by
  have e : f_M_readOn 0 46 (nI n) ac on ot mu = (kx 60 (nI n) (kx 60 (nI n) (kx 60 (nI n) ((kx 60 (nI n) (some ((0 : Int32), nI n + 1, upd ac (nI n).toNatClampNeg 4))).bind (fun u => some (u.1, u.2.1, u.2.2, upd on (nI n).toNatClampNeg 0, upd ot (nI n).toNatClampNeg 0, upd mu (nI n).toNatClampNeg 0)))))).bind (fun u => some (u.1, u.2.1, u.2.2.1, u.2.2.2.1, u.2.2.2.2.1, u.2.2.2.2.2)) := rfl
  rw [e, kx_nI hn (by decide), kx_nI hn (by decide), kx_nI hn (by decide), kx_nI hn (by decide), nI_clamp (by omega), nI_1]
  rfl
theorem rM0_let (hn : n < 60) : ∀ l, l < 4 → f_M_readOn 0 (nI (65 + l)) (nI n) ac on ot mu = some (6, nI n, ac, upd on n (nI l), upd ot n 0, upd mu n 0) := by
  have key : ∀ l, f_M_readOn 0 (nI (65 + l)) (nI n) ac on ot mu = (kx 60 (nI n) (kx 60 (nI n) (kx 60 (nI n) (some (6, nI n, ac, upd on (nI n).toNatClampNeg (nI (65 + l) - 65), upd ot (nI n).toNatClampNeg 0, upd mu (nI n).toNatClampNeg 0))))).bind (fun u => some (u.1, u.2.1, u.2.2.1, u.2.2.2.1, u.2.2.2.2.1, u.2.2.2.2.2)) → f_M_readOn 0 (nI (65 + l)) (nI n) ac on ot mu = some (6, nI n, ac, upd on n (nI l), upd ot n 0, upd mu n 0) := by
    intro l e
    have e2 : nI (65 + l) - 65 = nI l := by
      rw [show (65 : Int32) = nI 65 from rfl, pk_sub (by omega)]
      congr 1
      omega
    rw [e, e2, kx_nI hn (by decide), kx_nI hn (by decide), kx_nI hn (by decide), nI_clamp (by omega)]
    rfl
  exact lt4 (key 0 rfl) (key 1 rfl) (key 2 rfl) (key 3 rfl)
theorem rM0_no {k : Nat} (hn : n < 60) (hk : k < 127) (h46 : k ≠ 46) (h104 : k ≠ 104) (h108 : k ≠ 108) (h115 : k ≠ 115) (hl : ¬ (65 ≤ k ∧ k ≤ 68)) : f_M_readOn 0 (nI k) (nI n) ac on ot mu = some (-6, nI n, ac, upd on n 0, upd ot n 0, upd mu n 0) := by
  have hi : f_M_in (Int32.toInt64 (nI k)) 65 68 = some 0 := by
    rw [(sign_f hk).2.2.2.2.2.2.2.2.2]
    unfold lt4N
    rw [if_neg hl]
    rfl
  unfold f_M_readOn f_M_begin
  rw [if_pos rfl, bind_some' hi, if_pos rfl]
  unfold jn_M_begin_30
  rw [kx_nI hn (by decide), kx_nI hn (by decide), kx_nI hn (by decide), if_neg (show ¬ nI k = (46 : Int32) from fun z => h46 ((nI_eq (b := 46) (by omega) (by decide)).mp z)), if_neg (show ¬ nI k = (104 : Int32) from fun z => h104 ((nI_eq (b := 104) (by omega) (by decide)).mp z)), if_neg (show ¬ nI k = (108 : Int32) from fun z => h108 ((nI_eq (b := 108) (by omega) (by decide)).mp z)), if_neg (show ¬ nI k = (115 : Int32) from fun z => h115 ((nI_eq (b := 115) (by omega) (by decide)).mp z)), bind_some' hi, if_pos rfl, nI_clamp (by omega)]
  rfl
theorem rM1_c : f_M_readOn 1 s (nI n) ac on ot mu = ((f_M_isPlace (s - 48)).bind (fun u => if u = 0 then some ((-6), nI n, ac, on, ot) else kx 60 (nI n) (some (2, nI n, ac, upd on (nI n).toNatClampNeg (s - 48), ot)))).bind (fun u => some (u.1, u.2.1, u.2.2.1, u.2.2.2.1, u.2.2.2.2, mu)) := rfl
theorem rM1_ok {i : Nat} (hn : n < 60) (hi : i < 6) : f_M_readOn 1 (nI (48 + i)) (nI n) ac on ot mu = some (2, nI n, ac, upd on n (nI i), ot, mu) := by
  have h := (sign_f (s := 48 + i) (by omega)).2.2.2.2.2.2.2.1
  unfold d6 at h
  rw [if_pos (by omega)] at h
  rw [rM1_c, bind_some' h, if_neg (by decide), sub48, kx_nI hn (by decide), nI_clamp (by omega)]
  rfl
theorem rM1_no {k : Nat} (hk : k < 127) (hd : ¬ (48 ≤ k ∧ k ≤ 53)) : f_M_readOn 1 (nI k) (nI n) ac on ot mu = some (-6, nI n, ac, on, ot, mu) := by
  have h := (sign_f hk).2.2.2.2.2.2.2.1
  unfold d6 at h
  rw [if_neg hd] at h
  rw [rM1_c, bind_some' h, if_pos nI_0]
  rfl
theorem rM2_c : f_M_readOn 2 s (nI n) ac on ot mu = ((f_M_isPlace (s - 48)).bind (fun u => if u = 0 then some ((-6), nI n, ac, on, ot) else kx 60 (nI n) (some ((2 : Int32) + 1, nI n, ac, on, upd ot (nI n).toNatClampNeg (s - 48))))).bind (fun u => some (u.1, u.2.1, u.2.2.1, u.2.2.2.1, u.2.2.2.2, mu)) := rfl
theorem rM2_ok {i : Nat} (hn : n < 60) (hi : i < 6) : f_M_readOn 2 (nI (48 + i)) (nI n) ac on ot mu = some (3, nI n, ac, on, upd ot n (nI i), mu) := by
  have h := (sign_f (s := 48 + i) (by omega)).2.2.2.2.2.2.2.1
  unfold d6 at h
  rw [if_pos (by omega)] at h
  rw [rM2_c, bind_some' h, if_neg (by decide), sub48, kx_nI hn (by decide), nI_clamp (by omega)]
  rfl
theorem rM2_no {k : Nat} (hk : k < 127) (hd : ¬ (48 ≤ k ∧ k ≤ 53)) : f_M_readOn 2 (nI k) (nI n) ac on ot mu = some (-6, nI n, ac, on, ot, mu) := by
  have h := (sign_f hk).2.2.2.2.2.2.2.1
  unfold d6 at h
  rw [if_neg hd] at h
  rw [rM2_c, bind_some' h, if_pos nI_0]
  rfl
theorem rM6_c : f_M_readOn 6 s (nI n) ac on ot mu = ((f_M_isPlace (s - 48)).bind (fun u => if u = 0 then some ((-6), nI n, ac, on, ot) else kx 60 (nI n) (some ((6 : Int32) + 1, nI n, ac, on, upd ot (nI n).toNatClampNeg (s - 48))))).bind (fun u => some (u.1, u.2.1, u.2.2.1, u.2.2.2.1, u.2.2.2.2, mu)) := rfl
theorem rM6_ok {i : Nat} (hn : n < 60) (hi : i < 6) : f_M_readOn 6 (nI (48 + i)) (nI n) ac on ot mu = some (7, nI n, ac, on, upd ot n (nI i), mu) := by
  have h := (sign_f (s := 48 + i) (by omega)).2.2.2.2.2.2.2.1
  unfold d6 at h
  rw [if_pos (by omega)] at h
  rw [rM6_c, bind_some' h, if_neg (by decide), sub48, kx_nI hn (by decide), nI_clamp (by omega)]
  rfl
theorem rM6_no {k : Nat} (hk : k < 127) (hd : ¬ (48 ≤ k ∧ k ≤ 53)) : f_M_readOn 6 (nI k) (nI n) ac on ot mu = some (-6, nI n, ac, on, ot, mu) := by
  have h := (sign_f hk).2.2.2.2.2.2.2.1
  unfold d6 at h
  rw [if_neg hd] at h
  rw [rM6_c, bind_some' h, if_pos nI_0]
  rfl
theorem rM4_c : f_M_readOn 4 s (nI n) ac on ot mu = ((f_M_isPlace (s - 48)).bind (fun u => if u = 0 then some ((-6), nI n, ac, on, ot) else kx 60 (nI n) ((kx 60 (nI n) (some ((0 : Int32), nI n + 1, upd ac (nI n).toNatClampNeg 1))).bind (fun u => some (u.1, u.2.1, u.2.2, upd on (nI n).toNatClampNeg (s - 48), ot))))).bind (fun u => some (u.1, u.2.1, u.2.2.1, u.2.2.2.1, u.2.2.2.2, mu)) := rfl
theorem rM4_ok {i : Nat} (hn : n < 60) (hi : i < 6) : f_M_readOn 4 (nI (48 + i)) (nI n) ac on ot mu = some (0, nI (n + 1), upd ac n 1, upd on n (nI i), ot, mu) := by
  have h := (sign_f (s := 48 + i) (by omega)).2.2.2.2.2.2.2.1
  unfold d6 at h
  rw [if_pos (by omega)] at h
  rw [rM4_c, bind_some' h, if_neg (by decide), sub48, kx_nI hn (by decide), kx_nI hn (by decide), nI_1, nI_clamp (by omega)]
  rfl
theorem rM4_no {k : Nat} (hk : k < 127) (hd : ¬ (48 ≤ k ∧ k ≤ 53)) : f_M_readOn 4 (nI k) (nI n) ac on ot mu = some (-6, nI n, ac, on, ot, mu) := by
  have h := (sign_f hk).2.2.2.2.2.2.2.1
  unfold d6 at h
  rw [if_neg hd] at h
  rw [rM4_c, bind_some' h, if_pos nI_0]
  rfl
theorem rM5_c : f_M_readOn 5 s (nI n) ac on ot mu = ((f_M_isPlace (s - 48)).bind (fun u => if u = 0 then some ((-6), nI n, ac, on, ot) else kx 60 (nI n) ((kx 60 (nI n) (some ((0 : Int32), nI n + 1, upd ac (nI n).toNatClampNeg 2))).bind (fun u => some (u.1, u.2.1, u.2.2, upd on (nI n).toNatClampNeg (s - 48), ot))))).bind (fun u => some (u.1, u.2.1, u.2.2.1, u.2.2.2.1, u.2.2.2.2, mu)) := rfl
theorem rM5_ok {i : Nat} (hn : n < 60) (hi : i < 6) : f_M_readOn 5 (nI (48 + i)) (nI n) ac on ot mu = some (0, nI (n + 1), upd ac n 2, upd on n (nI i), ot, mu) := by
  have h := (sign_f (s := 48 + i) (by omega)).2.2.2.2.2.2.2.1
  unfold d6 at h
  rw [if_pos (by omega)] at h
  rw [rM5_c, bind_some' h, if_neg (by decide), sub48, kx_nI hn (by decide), kx_nI hn (by decide), nI_1, nI_clamp (by omega)]
  rfl
theorem rM5_no {k : Nat} (hk : k < 127) (hd : ¬ (48 ≤ k ∧ k ≤ 53)) : f_M_readOn 5 (nI k) (nI n) ac on ot mu = some (-6, nI n, ac, on, ot, mu) := by
  have h := (sign_f hk).2.2.2.2.2.2.2.1
  unfold d6 at h
  rw [if_neg hd] at h
  rw [rM5_c, bind_some' h, if_pos nI_0]
  rfl
theorem rM3_c : f_M_readOn 3 s (nI n) ac on ot mu = (kx 60 (nI n) ((f_M_in (Int32.toInt64 (s - 48)) 1 9).bind (fun u => if u = 0 then some ((-6), nI n, ac, upd mu (nI n).toNatClampNeg (s - 48)) else (kx 60 (nI n) (some ((0 : Int32), nI n + 1, upd ac (nI n).toNatClampNeg 0))).bind (fun u => some (u.1, u.2.1, u.2.2, upd mu (nI n).toNatClampNeg (s - 48)))))).bind (fun u => some (u.1, u.2.1, u.2.2.1, on, ot, u.2.2.2)) := rfl
theorem rM3_ok {i : Nat} (hn : n < 60) (h1 : 1 ≤ i) (h9 : i ≤ 9) : f_M_readOn 3 (nI (48 + i)) (nI n) ac on ot mu = some (0, nI (n + 1), upd ac n 0, on, ot, upd mu n (nI i)) := by
  have h := (sign_f (s := 48 + i) (by omega)).2.2.2.2.2.2.2.2.1
  unfold d9 at h
  rw [if_pos (by omega)] at h
  rw [rM3_c, kx_nI hn (by decide), bind_some' h, if_neg (by decide), sub48, kx_nI hn (by decide), nI_clamp (by omega), nI_1]
  rfl
theorem rM3_no {k : Nat} (hn : n < 60) (hk : k < 127) (hd : ¬ (49 ≤ k ∧ k ≤ 57)) : f_M_readOn 3 (nI k) (nI n) ac on ot mu = some (-6, nI n, ac, on, ot, upd mu n (nI k - 48)) := by
  have h := (sign_f hk).2.2.2.2.2.2.2.2.1
  unfold d9 at h
  rw [if_neg hd] at h
  rw [rM3_c, kx_nI hn (by decide), bind_some' h, if_pos nI_0, nI_clamp (by omega)]
  rfl
theorem rM7_c : f_M_readOn 7 s (nI n) ac on ot mu = (kx 60 (nI n) ((f_M_in (Int32.toInt64 (s - 48)) 1 9).bind (fun u => if u = 0 then some ((-6), nI n, ac, upd mu (nI n).toNatClampNeg (s - 48)) else (kx 60 (nI n) (some ((0 : Int32), nI n + 1, upd ac (nI n).toNatClampNeg 3))).bind (fun u => some (u.1, u.2.1, u.2.2, upd mu (nI n).toNatClampNeg (s - 48)))))).bind (fun u => some (u.1, u.2.1, u.2.2.1, on, ot, u.2.2.2)) := rfl
theorem rM7_ok {i : Nat} (hn : n < 60) (h1 : 1 ≤ i) (h9 : i ≤ 9) : f_M_readOn 7 (nI (48 + i)) (nI n) ac on ot mu = some (0, nI (n + 1), upd ac n 3, on, ot, upd mu n (nI i)) := by
  have h := (sign_f (s := 48 + i) (by omega)).2.2.2.2.2.2.2.2.1
  unfold d9 at h
  rw [if_pos (by omega)] at h
  rw [rM7_c, kx_nI hn (by decide), bind_some' h, if_neg (by decide), sub48, kx_nI hn (by decide), nI_clamp (by omega), nI_1]
  rfl
theorem rM7_no {k : Nat} (hn : n < 60) (hk : k < 127) (hd : ¬ (49 ≤ k ∧ k ≤ 57)) : f_M_readOn 7 (nI k) (nI n) ac on ot mu = some (-6, nI n, ac, on, ot, upd mu n (nI k - 48)) := by
  have h := (sign_f hk).2.2.2.2.2.2.2.2.1
  unfold d9 at h
  rw [if_neg hd] at h
  rw [rM7_c, kx_nI hn (by decide), bind_some' h, if_pos nI_0, nI_clamp (by omega)]
  rfl
theorem rC0_46 : jn_D_faultPlace_35 r 46 0 P s C sg = r 46 0 (P + 1) := rfl
theorem rC0_104 : jn_D_faultPlace_35 r 104 0 P s C sg = r 104 1 (P + 1) := rfl
theorem rC0_108 : jn_D_faultPlace_35 r 108 0 P s C sg = r 108 1 (P + 1) := rfl
theorem rC0_115 : jn_D_faultPlace_35 r 115 0 P s C sg = r 115 1 (P + 1) := rfl
theorem rC0_let : ∀ l, l < 4 → jn_D_faultPlace_35 r (nI (65 + l)) 0 P s C sg = r (nI (65 + l)) 1 (P + 1) := lt4 rfl rfl rfl rfl
theorem rC0_no {k : Nat} (hk : k < 127) (h46 : k ≠ 46) (h104 : k ≠ 104) (h108 : k ≠ 108) (h115 : k ≠ 115) (hl : ¬ (65 ≤ k ∧ k ≤ 68)) : jn_D_faultPlace_35 r (nI k) 0 P s C sg = some P := by
  have h := (sign_f hk).1
  unfold lenN at h
  rw [if_neg h46, if_neg h104, if_neg h108, if_neg h115, if_neg hl] at h
  unfold jn_D_faultPlace_35
  rw [bind_some' h, if_pos nI_0]
theorem rC1_c : jn_D_faultPlace_35 r 115 1 P s C sg = (f_D_isFitting s 1 4).bind (fun u => if u = 0 then some P else r 115 2 (P + 1)) := rfl
theorem rC1_ok {k : Nat} (hk : k < 127) (hd : 48 ≤ k ∧ k ≤ 53) : jn_D_faultPlace_35 r 115 1 P (nI k) C sg = r 115 2 (P + 1) := by
  have h := (sign_f hk).2.1
  unfold d6 at h
  rw [if_pos hd] at h
  rw [rC1_c, bind_some' h, if_neg (by decide)]
theorem rC1_no {k : Nat} (hk : k < 127) (hd : ¬ (48 ≤ k ∧ k ≤ 53)) : jn_D_faultPlace_35 r 115 1 P (nI k) C sg = some P := by
  have h := (sign_f hk).2.1
  unfold d6 at h
  rw [if_neg hd] at h
  rw [rC1_c, bind_some' h, if_pos nI_0]
theorem rC2_c : jn_D_faultPlace_35 r 115 2 P s C sg = (f_D_isFitting s 2 4).bind (fun u => if u = 0 then some P else r 115 3 (P + 1)) := rfl
theorem rC2_ok {k : Nat} (hk : k < 127) (hd : 48 ≤ k ∧ k ≤ 53) : jn_D_faultPlace_35 r 115 2 P (nI k) C sg = r 115 3 (P + 1) := by
  have h := (sign_f hk).2.2.1
  unfold d6 at h
  rw [if_pos hd] at h
  rw [rC2_c, bind_some' h, if_neg (by decide)]
theorem rC2_no {k : Nat} (hk : k < 127) (hd : ¬ (48 ≤ k ∧ k ≤ 53)) : jn_D_faultPlace_35 r 115 2 P (nI k) C sg = some P := by
  have h := (sign_f hk).2.2.1
  unfold d6 at h
  rw [if_neg hd] at h
  rw [rC2_c, bind_some' h, if_pos nI_0]
theorem rC3_c : jn_D_faultPlace_35 r 115 3 P s C sg = (f_D_isFitting s 3 4).bind (fun u => if u = 0 then some P else r 115 0 (P + 1)) := rfl
theorem rC3_ok {k : Nat} (hk : k < 127) (hd : 49 ≤ k ∧ k ≤ 57) : jn_D_faultPlace_35 r 115 3 P (nI k) C sg = r 115 0 (P + 1) := by
  have h := (sign_f hk).2.2.2.1
  unfold d9 at h
  rw [if_pos hd] at h
  rw [rC3_c, bind_some' h, if_neg (by decide)]
theorem rC3_no {k : Nat} (hk : k < 127) (hd : ¬ (49 ≤ k ∧ k ≤ 57)) : jn_D_faultPlace_35 r 115 3 P (nI k) C sg = some P := by
  have h := (sign_f hk).2.2.2.1
  unfold d9 at h
  rw [if_neg hd] at h
  rw [rC3_c, bind_some' h, if_pos nI_0]
theorem rC4_c : jn_D_faultPlace_35 r 108 1 P s C sg = (f_D_isFitting s 1 2).bind (fun u => if u = 0 then some P else r 108 0 (P + 1)) := rfl
theorem rC4_ok {k : Nat} (hk : k < 127) (hd : 48 ≤ k ∧ k ≤ 53) : jn_D_faultPlace_35 r 108 1 P (nI k) C sg = r 108 0 (P + 1) := by
  have h := (sign_f hk).2.2.2.2.1
  unfold d6 at h
  rw [if_pos hd] at h
  rw [rC4_c, bind_some' h, if_neg (by decide)]
theorem rC4_no {k : Nat} (hk : k < 127) (hd : ¬ (48 ≤ k ∧ k ≤ 53)) : jn_D_faultPlace_35 r 108 1 P (nI k) C sg = some P := by
  have h := (sign_f hk).2.2.2.2.1
  unfold d6 at h
  rw [if_neg hd] at h
  rw [rC4_c, bind_some' h, if_pos nI_0]
theorem rC5_c : jn_D_faultPlace_35 r 104 1 P s C sg = (f_D_isFitting s 1 2).bind (fun u => if u = 0 then some P else r 104 0 (P + 1)) := rfl
theorem rC5_ok {k : Nat} (hk : k < 127) (hd : 48 ≤ k ∧ k ≤ 53) : jn_D_faultPlace_35 r 104 1 P (nI k) C sg = r 104 0 (P + 1) := by
  have h := (sign_f hk).2.2.2.2.1
  unfold d6 at h
  rw [if_pos hd] at h
  rw [rC5_c, bind_some' h, if_neg (by decide)]
theorem rC5_no {k : Nat} (hk : k < 127) (hd : ¬ (48 ≤ k ∧ k ≤ 53)) : jn_D_faultPlace_35 r 104 1 P (nI k) C sg = some P := by
  have h := (sign_f hk).2.2.2.2.1
  unfold d6 at h
  rw [if_neg hd] at h
  rw [rC5_c, bind_some' h, if_pos nI_0]
theorem rC6_c : ∀ l, l < 4 → jn_D_faultPlace_35 r (nI (65 + l)) 1 P s C sg = (f_D_isFitting s 1 3).bind (fun u => if u = 0 then some P else r (nI (65 + l)) 2 (P + 1)) := lt4 rfl rfl rfl rfl
theorem rC6_ok {k l : Nat} (hl : l < 4) (hk : k < 127) (hd : 48 ≤ k ∧ k ≤ 53) : jn_D_faultPlace_35 r (nI (65 + l)) 1 P (nI k) C sg = r (nI (65 + l)) 2 (P + 1) := by
  have h := (sign_f hk).2.2.2.2.2.1
  unfold d6 at h
  rw [if_pos hd] at h
  rw [rC6_c l hl, bind_some' h, if_neg (by decide)]
theorem rC6_no {k l : Nat} (hl : l < 4) (hk : k < 127) (hd : ¬ (48 ≤ k ∧ k ≤ 53)) : jn_D_faultPlace_35 r (nI (65 + l)) 1 P (nI k) C sg = some P := by
  have h := (sign_f hk).2.2.2.2.2.1
  unfold d6 at h
  rw [if_neg hd] at h
  rw [rC6_c l hl, bind_some' h, if_pos nI_0]
theorem rC7_c : ∀ l, l < 4 → jn_D_faultPlace_35 r (nI (65 + l)) 2 P s C sg = (f_D_isFitting s 2 3).bind (fun u => if u = 0 then some P else r (nI (65 + l)) 0 (P + 1)) := lt4 rfl rfl rfl rfl
theorem rC7_ok {k l : Nat} (hl : l < 4) (hk : k < 127) (hd : 49 ≤ k ∧ k ≤ 57) : jn_D_faultPlace_35 r (nI (65 + l)) 2 P (nI k) C sg = r (nI (65 + l)) 0 (P + 1) := by
  have h := (sign_f hk).2.2.2.2.2.2.1
  unfold d9 at h
  rw [if_pos hd] at h
  rw [rC7_c l hl, bind_some' h, if_neg (by decide)]
theorem rC7_no {k l : Nat} (hl : l < 4) (hk : k < 127) (hd : ¬ (49 ≤ k ∧ k ≤ 57)) : jn_D_faultPlace_35 r (nI (65 + l)) 2 P (nI k) C sg = some P := by
  have h := (sign_f hk).2.2.2.2.2.2.1
  unfold d9 at h
  rw [if_neg hd] at h
  rw [rC7_c l hl, bind_some' h, if_pos nI_0]
end TX
