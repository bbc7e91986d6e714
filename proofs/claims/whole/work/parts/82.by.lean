/-! by told pairs alone: class and reference -/
def p1N (k : Nat) : Nat := ([0, 0, 0, 0, 0, 1, 1, 1, 1, 2, 2, 2, 3, 3, 4] : List Nat).getD k 0
def p2N (k : Nat) : Nat := ([1, 2, 3, 4, 5, 2, 3, 4, 5, 3, 4, 5, 4, 5, 5] : List Nat).getD k 0
theorem pr_chk : ((List.range 15).all fun k => decide (kk_ONE k = nI (p1N k)) && decide (kk_OTHER k = nI (p2N k)) && decide (p1N k < p2N k) && decide (p2N k < 6)) = true := by decide +kernel
theorem pr_at {k : Nat} (hk : k < 15) : kk_ONE k = nI (p1N k) ∧ kk_OTHER k = nI (p2N k) ∧ p1N k < p2N k ∧ p2N k < 6 := by
  have h := all_lt pr_chk hk
  rw [Bool.and_eq_true, Bool.and_eq_true, Bool.and_eq_true] at h
  exact ⟨of_decide_eq_true h.1.1.1, of_decide_eq_true h.1.1.2, of_decide_eq_true h.1.2, of_decide_eq_true h.2⟩
theorem ONE_Z : Zn 15 kk_ONE := fun k hk => by
  obtain ⟨j, rfl⟩ : ∃ j, k = j + 15 := ⟨k - 15, by omega⟩
  rfl
theorem OTHER_Z : Zn 15 kk_OTHER := fun k hk => by
  obtain ⟨j, rfl⟩ : ∃ j, k = j + 15 := ⟨k - 15, by omega⟩
  rfl
def u15 (f g : Nat → Int32) : Nat → Nat → Int32
  | 0 => g
  | i + 1 => upd (u15 f g i) i (f i)
theorem u15_fill (f g : Nat → Int32) : ∀ i, u15 f g i = fa_fill f g i := by
  intro i
  induction i with
  | zero => rw [fa_fill_0]; rfl
  | succ i ih => show upd (u15 f g i) i (f i) = _; rw [ih, fa_fill_succ]
set_option maxRecDepth 100000 in
theorem findPairs_eq {a b : Nat → Int32} (ha : Zn 15 a) (hb : Zn 15 b) : f_M_findPairs a b = some (kk_ONE, kk_OTHER) := by
  have h : f_M_findPairs a b = some (u15 kk_ONE a 15, u15 kk_OTHER b 15) := rfl
  rw [h, u15_fill, u15_fill, fill_eq ONE_Z ha, fill_eq OTHER_Z hb]
/-- the order behind a change of the k-th pair -/
def nbN (q k : Nat) : Nat := rk (sw (l6 (un q 0) (un q 1) (un q 2) (un q 3) (un q 4) (un q 5)) (p1N k) (p2N k) 0) (sw (l6 (un q 0) (un q 1) (un q 2) (un q 3) (un q 4) (un q 5)) (p1N k) (p2N k) 1) (sw (l6 (un q 0) (un q 1) (un q 2) (un q 3) (un q 4) (un q 5)) (p1N k) (p2N k) 2) (sw (l6 (un q 0) (un q 1) (un q 2) (un q 3) (un q 4) (un q 5)) (p1N k) (p2N k) 3) (sw (l6 (un q 0) (un q 1) (un q 2) (un q 3) (un q 4) (un q 5)) (p1N k) (p2N k) 4) (sw (l6 (un q 0) (un q 1) (un q 2) (un q 3) (un q 4) (un q 5)) (p1N k) (p2N k) 5)
theorem swap_back {g : Nat → Int32} {i j : Nat} (h : i ≠ j) : upd (upd (upd (upd g i (g j)) j (g i)) j ((upd (upd g i (g j)) j (g i)) i)) i (g i) = g := by
  funext k
  by_cases a : k = i
  · rw [a, upd_at]
  · rw [upd_ne a]
    by_cases b : k = j
    · rw [b, upd_at, upd_ne h, upd_at]
    · rw [upd_ne b, upd_ne b, upd_ne a]
theorem nb_all {q k : Nat} (hq : q < 720) (hk : k < 15) : nbN q k < 720 ∧ f_O_changed (ord q) (kk_ONE k) (kk_OTHER k) = some (ord (nbN q k)) ∧ f_M_rankBy (nI k) (dgs q) kk_ONE kk_OTHER = some (nI (nbN q k), dgs q) := by
  obtain ⟨e1, e2, h1, h2⟩ := pr_at hk
  obtain ⟨a, b, c, d, e, f, hp, hc, hm, hl⟩ := swap6 (unP hq) (show p1N k < 6 by omega) h2
  have en : nbN q k = rk a b c d e f := by
    unfold nbN
    rw [← hl 0 (by decide), ← hl 1 (by decide), ← hl 2 (by decide), ← hl 3 (by decide), ← hl 4 (by decide), ← hl 5 (by decide)]
    rfl
  refine ⟨by rw [en]; exact rk_lt hp, ?_, ?_⟩
  · rw [e1, e2, en, ord_rk hp]; exact hc
  · unfold f_M_rankBy
    rw [kx_nI hk (by decide), kx_nI hk (by decide), nI_clamp (show k < 2 ^ 31 by omega), e1, e2, kx_nI (show p1N k < 6 by omega) (by decide), kx_nI h2 (by decide), kx_nI (show p1N k < 6 by omega) (by decide), kx_nI h2 (by decide), nI_clamp (show p1N k < 2 ^ 31 by omega), nI_clamp (show p2N k < 2 ^ 31 by omega)]
    have hr : f_M_rankOfDigits (upd (upd (dgs q) (p1N k) (dgs q (p2N k))) (p2N k) (dgs q (p1N k))) = some (nI (nbN q k)) := by
      rw [show upd (upd (dgs q) (p1N k) (dgs q (p2N k))) (p2N k) (dgs q (p1N k)) = on6 a b c d e f from hm, rkM hp, en]
    rw [bind_some' hr, kx_nI (show p1N k < 6 by omega) (by decide), kx_nI h2 (by decide), kx_nI (show p1N k < 6 by omega) (by decide), swap_back (by omega)]
/-- the pair is told -/
abbrev hb (p : Int32) (k : Nat) : Prop := ((p >>> (nI k &&& 31)) &&& 1) = 1
theorem has_hb (p : Int32) (k : Nat) : f_M_has p (nI k) = some (if hb p k then 1 else 0) := by
  unfold f_M_has hb
  by_cases z : ((p >>> (nI k &&& 31)) &&& 1) = 1
  · rw [if_pos z, if_pos z]
  · rw [if_neg z, if_neg z]
def GG (g : Nat) (hg : g < 720) (p : Int32) : Gr := ⟨(g, fun q r => q < 720 ∧ ∃ k, k < 15 ∧ hb p k ∧ nbN q k = r), hg, fun q r h => ⟨h.1, by obtain ⟨k, h1, -, h3⟩ := h.2; rw [← h3]; exact (nb_all h.1 h1).1⟩⟩
theorem fill720 (v : Nat → Int32) : f_J_fill (-6) v = some (fa_fill (fun _ => -6) v 720) := by
  unfold f_J_fill
  have h0 : v = fa_fill (fun _ => -6) v 0 := (fa_fill_0 _ _).symm
  conv => lhs; rw [h0]
  refine it2_seq (F := bd_J_fill_5 (-6) 720) (fun i => nI i) (fun i => fa_fill (fun _ => -6) v i) 720 ?_ ?_ 1100 (by decide)
  · intro i hi R
    show bd_J_fill_5 (-6) 720 R (nI i) (fa_fill (fun _ => -6) v i) = R (nI (i + 1)) (fa_fill (fun _ => -6) v (i + 1))
    unfold bd_J_fill_5
    rw [if_neg (show ¬ (720 : Int32) ≤ nI i from nI_ge (b := 720) hi (by decide)), kx_nI hi (by decide), nI_clamp (by omega), nI_1, ← fa_fill_succ]
  · intro R
    show bd_J_fill_5 (-6) 720 R (nI 720) _ = _
    unfold bd_J_fill_5
    rw [if_pos (show (720 : Int32) ≤ nI 720 by decide)]
theorem reach_eq {r n : Nat} (hr : r < 720) (hn : n < 720) (x : Int32) {v w : Nat → Int32} : f_P_reach (ord r) x (nI n) v w = if v r = -6 then some (nI (n + 1), upd v r x, upd w n (ord r)) else some (nI n, v, w) := by
  unfold f_P_reach
  have hw := within_nI (s := r) (lo := 0) (hi := 719) (by omega) (by decide) (by decide)
  rw [if_pos ⟨by omega, by omega⟩] at hw
  rw [bind_some' (ord_rank hr), bind_some' (show f_C_isWithin (nI r) 0 719 = some 1 from hw), n10, kx_nI hr (by decide), nI_clamp (by omega), if_neg (show ¬ (720 : Int32) ≤ nI n from nI_ge (b := 720) hn (by decide)), kx_nI hr (by decide), kx_nI hn (by decide), nI_clamp (by omega), nI_1]
theorem reach_no {r n : Nat} (hr : r < 720) (x : Int32) {v w : Nat → Int32} (hv : v r ≠ -6) : f_P_reach (ord r) x (nI n) v w = some (nI n, v, w) := by
  unfold f_P_reach
  have hw := within_nI (s := r) (lo := 0) (hi := 719) (by omega) (by decide) (by decide)
  rw [if_pos ⟨by omega, by omega⟩] at hw
  rw [bind_some' (ord_rank hr), bind_some' (show f_C_isWithin (nI r) 0 719 = some 1 from hw), n10, kx_nI hr (by decide), nI_clamp (by omega), if_neg hv]
theorem steps_eq {r : Nat} (hr : r < 720) (v : Nat → Int32) : f_P_stepsFrom (ord r) v = some (v r) := by
  unfold f_P_stepsFrom
  have hw := within_nI (s := r) (lo := 0) (hi := 719) (by omega) (by decide) (by decide)
  rw [if_pos ⟨by omega, by omega⟩] at hw
  rw [bind_some' (ord_rank hr), bind_some' (show f_C_isWithin (nI r) 0 719 = some 1 from hw), n10, kx_nI hr (by decide), nI_clamp (by omega)]
theorem beside_loop {g : Nat} {hg : g < 720} {p : Int32} {i q t : Nat} (hq : q < 720) : ∀ j k n : Nat, k + j = 15 → ∀ (v w : Nat → Int32) (qr d : Nat → Nat), (GG g hg p).Qu i n v qr d → i < n → (∀ x, x < n → w x = ord (qr x)) → qr i = q → d i = t → (∀ k', k' < k → hb p k' → v (nbN q k') ≠ -6) → ∀ f, j < f → ∃ (n' : Nat) (v' w' : Nat → Int32) (qr' d' : Nat → Nat), it4 (bd_P_reachBeside_11 (ord q) p (nI (t + 1))) f (nI k) (nI n) v w = some (nI n', v', w') ∧ (GG g hg p).Qu i n' v' qr' d' ∧ i < n' ∧ (∀ x, x < n' → w' x = ord (qr' x)) ∧ qr' i = q ∧ (∀ k', k' < 15 → hb p k' → v' (nbN q k') ≠ -6) := by
  intro j
  induction j with
  | zero =>
    intro k n hk v w qr d hQ hi hw hqi hdt hdn f hf
    obtain ⟨f, rfl⟩ : ∃ x, f = x + 1 := ⟨f - 1, by omega⟩
    refine ⟨n, v, w, qr, d, ?_, hQ, hi, hw, hqi, fun k' h1 => hdn k' (by omega)⟩
    show bd_P_reachBeside_11 (ord q) p (nI (t + 1)) (it4 (bd_P_reachBeside_11 (ord q) p (nI (t + 1))) f) (nI k) (nI n) v w = _
    generalize it4 (bd_P_reachBeside_11 (ord q) p (nI (t + 1))) f = F
    unfold bd_P_reachBeside_11
    rw [if_pos (show (15 : Int32) ≤ nI k from nI_le (a := 15) (by omega) (by omega))]
  | succ j ih =>
    intro k n hk v w qr d hQ hi hw hqi hdt hdn f hf
    obtain ⟨f, rfl⟩ : ∃ x, f = x + 1 := ⟨f - 1, by omega⟩
    have hk15 : k < 15 := by omega
    obtain ⟨hb1, hb2, -⟩ := nb_all hq hk15
    have st : bd_P_reachBeside_11 (ord q) p (nI (t + 1)) (it4 (bd_P_reachBeside_11 (ord q) p (nI (t + 1))) f) (nI k) (nI n) v w = if hb p k then (f_P_reach (ord (nbN q k)) (nI (t + 1)) (nI n) v w).bind (fun u => it4 (bd_P_reachBeside_11 (ord q) p (nI (t + 1))) f (nI (k + 1)) u.1 u.2.1 u.2.2) else it4 (bd_P_reachBeside_11 (ord q) p (nI (t + 1))) f (nI (k + 1)) (nI n) v w := by
      generalize it4 (bd_P_reachBeside_11 (ord q) p (nI (t + 1))) f = F
      unfold bd_P_reachBeside_11
      rw [if_neg (show ¬ (15 : Int32) ≤ nI k from nI_ge (b := 15) hk15 (by decide)), kx_nI hk15 (by decide), kx_nI hk15 (by decide), nI_clamp (by omega), bind_some' hb2, nI_1]
    show ∃ (n' : Nat) (v' w' : Nat → Int32) (qr' d' : Nat → Nat), bd_P_reachBeside_11 (ord q) p (nI (t + 1)) (it4 (bd_P_reachBeside_11 (ord q) p (nI (t + 1))) f) (nI k) (nI n) v w = some (nI n', v', w') ∧ _
    rw [st]
    by_cases z : hb p k
    · rw [if_pos z]
      by_cases y : v (nbN q k) = -6
      · have he : (GG g hg p).E (qr i) (nbN q k) := by rw [hqi]; exact ⟨hq, k, hk15, z, rfl⟩
        obtain ⟨hn, hQ2⟩ := hQ.push hi he y
        rw [reach_eq hb1 hn, if_pos y]
        rw [hdt] at hQ2
        refine ih (k + 1) (n + 1) (by omega) _ (upd w n (ord (nbN q k))) _ _ hQ2 (by omega) ?_ ?_ ?_ ?_ f (by omega)
        · intro x hx
          by_cases e : x = n
          · rw [if_pos e, e, upd_at]
          · rw [if_neg e, upd_ne e]; exact hw x (by omega)
        · rw [if_neg (by omega)]; exact hqi
        · rw [if_neg (by omega)]; exact hdt
        · intro k' h1 h2
          by_cases e : nbN q k' = nbN q k
          · rw [e, upd_at]
            have hs := (hQ2.at_ n (by omega)).1.small
            rw [if_pos rfl] at hs
            exact nI_ne_m6 (by omega)
          · rw [upd_ne e]
            refine hdn k' ?_ h2
            by_cases e2 : k' = k
            · exact absurd (by rw [e2]) e
            · omega
      · rw [reach_no hb1 _ y]
        refine ih (k + 1) n (by omega) v w qr d hQ hi hw hqi hdt ?_ f (by omega)
        intro k' h1 h2
        by_cases e2 : k' = k
        · rw [e2]; exact y
        · exact hdn k' (by omega) h2
    · rw [if_neg z]
      refine ih (k + 1) n (by omega) v w qr d hQ hi hw hqi hdt ?_ f (by omega)
      intro k' h1 h2
      by_cases e2 : k' = k
      · rw [e2] at h2; exact absurd h2 z
      · exact hdn k' (by omega) h2
theorem measure_loop {g : Nat} {hg : g < 720} {p : Int32} {x : Nat} (hx : x < 720) : ∀ j i n : Nat, i + j = 720 → ∀ (v w : Nat → Int32) (qr d : Nat → Nat), (GG g hg p).Qu i n v qr d → (∀ y, y < n → w y = ord (qr y)) → ∀ f, j < f → ∃ (n' : Int32) (v' w' : Nat → Int32), it4 (bd_P_measure_23 (ord x) p) f (nI i) (nI n) v w = some (n', v', w') ∧ (GG g hg p).Half x v' := by
  intro j
  induction j with
  | zero =>
    intro i n hi v w qr d hQ hw f hf
    obtain ⟨f, rfl⟩ : ∃ y, f = y + 1 := ⟨f - 1, by omega⟩
    have h1 := hQ.n720
    have h2 := hQ.hin
    refine ⟨nI n, v, w, ?_, hQ.stop hx (Or.inl (by omega))⟩
    show bd_P_measure_23 (ord x) p (it4 (bd_P_measure_23 (ord x) p) f) (nI i) (nI n) v w = _
    generalize it4 (bd_P_measure_23 (ord x) p) f = F
    unfold bd_P_measure_23
    rw [if_pos (show (720 : Int32) ≤ nI i from nI_le (show 720 ≤ i by omega) (by omega))]
  | succ j ih =>
    intro i n hi v w qr d hQ hw f hf
    obtain ⟨f, rfl⟩ : ∃ y, f = y + 1 := ⟨f - 1, by omega⟩
    have h1 := hQ.n720
    have h2 := hQ.hin
    have h7 : ¬ (720 : Int32) ≤ nI i := nI_ge (show i < 720 by omega) (by decide)
    show ∃ (n' : Int32) (v' w' : Nat → Int32), bd_P_measure_23 (ord x) p (it4 (bd_P_measure_23 (ord x) p) f) (nI i) (nI n) v w = some (n', v', w') ∧ _
    by_cases e : i = n
    · refine ⟨nI n, v, w, ?_, hQ.stop hx (Or.inl e)⟩
      generalize it4 (bd_P_measure_23 (ord x) p) f = F
      unfold bd_P_measure_23
      rw [if_neg h7, if_pos (nI_le (show n ≤ i by omega) (by omega))]
    · by_cases y : v x = -6
      · have hin : i < n := by omega
        have hA := (hQ.at_ i hin).1
        obtain ⟨n', v', w', qr', d', s1, s2, s3, s4, s5, s6⟩ := beside_loop (g := g) (hg := hg) (p := p) (i := i) (q := qr i) (t := d i) hA.lt 15 0 n (by omega) v w qr d hQ hin hw rfl rfl (fun k' h => by omega) 1100 (by omega)
        have hQ2 := s2.next s3 (fun r he => by
          rw [s5] at he
          obtain ⟨-, k, k1, k2, k3⟩ := he
          rw [← k3]; exact s6 k k1 k2)
        obtain ⟨n2, v2, w2, t1, t2⟩ := ih (i + 1) n' (by omega) v' w' qr' d' hQ2 s4 f (by omega)
        refine ⟨n2, v2, w2, ?_, t2⟩
        rw [← t1]
        generalize it4 (bd_P_measure_23 (ord x) p) f = F
        unfold bd_P_measure_23
        have hbs : f_P_reachBeside (ord (qr i)) p (nI n) v w = some (nI n', v', w') := by
          unfold f_P_reachBeside
          rw [bind_some' (steps_eq hA.lt v), (hQ.at_ i hin).2, nI_1]
          exact s1
        rw [if_neg h7, if_neg (nI_ge hin (by omega)), bind_some' (steps_eq hx v), if_pos y, kx_nI (by omega) (by decide), nI_clamp (by omega), hw i hin, bind_some' hbs, nI_1]
      · refine ⟨nI n, v, w, ?_, hQ.stop hx (Or.inr y)⟩
        generalize it4 (bd_P_measure_23 (ord x) p) f = F
        unfold bd_P_measure_23
        rw [if_neg h7, if_neg (nI_ge (show i < n by omega) (by omega)), bind_some' (steps_eq hx v), if_neg y]
theorem measureC {g x : Nat} (hg : g < 720) (hx : x < 720) (p n0 : Int32) (v w : Nat → Int32) : ∃ (n' : Int32) (v' w' : Nat → Int32), f_P_measure (ord x) (ord g) p n0 v w = some (n', v', w') ∧ (GG g hg p).Half x v' := by
  have hf : fa_fill (fun _ => -6) v 720 g = -6 := fa_fill_in hg
  have hQ := Gr.Qu.first (GG g hg p) (v := upd (fa_fill (fun _ => -6) v 720) g 0) (by rw [show (GG g hg p).g = g from rfl, upd_at]) (fun r hr hne => by
    rw [upd_ne (show r ≠ g from hne), fa_fill_in hr])
  obtain ⟨n', v', w', h1, h2⟩ := measure_loop (g := g) (hg := hg) (p := p) hx 720 0 1 (by omega) _ (upd w 0 (ord g)) _ _ hQ (fun y hy => by rw [show y = 0 by omega, upd_at]; rfl) 1100 (by omega)
  refine ⟨n', v', w', ?_, h2⟩
  unfold f_P_measure
  have hr : f_P_reach (ord g) 0 0 (fa_fill (fun _ => -6) v 720) w = some (nI 1, upd (fa_fill (fun _ => -6) v 720) g 0, upd w 0 (ord g)) := by
    have := reach_eq (r := g) (n := 0) hg (by decide) 0 (v := fa_fill (fun _ => -6) v 720) (w := w)
    rw [if_pos hf] at this
    exact this
  rw [bind_some' (fill720 v), bind_some' hr]
  exact h1
/-! the reference -/
theorem next_loop {g : Nat} {hg : g < 720} {p : Int32} {s q : Nat} (hs : s < 720) (hq : (GG g hg p).At q s) : ∀ j k c : Nat, k + j = 15 → c ≤ k → ∀ (v : Nat → Int32) (Q : Nat → Nat → Prop), (GG g hg p).Mid s Q v → ∀ f, j < f → ∃ (c' : Nat) (v' : Nat → Int32), it4 (bd_M_nextOnes_11 (nI q) p (nI s) kk_ONE kk_OTHER) f (nI c) (nI k) (dgs q) v = some (nI c', dgs q, v') ∧ c ≤ c' ∧ c' ≤ 15 ∧ (c' = c → v' = v) ∧ (c < c' → ∃ r, (GG g hg p).At r (s + 1)) ∧ (GG g hg p).Mid s (fun a r => Q a r ∨ (a = q ∧ ∃ k', k ≤ k' ∧ k' < 15 ∧ hb p k' ∧ nbN q k' = r)) v' := by
  intro j
  induction j with
  | zero =>
    intro k c hk hc v Q hM f hf
    obtain ⟨f, rfl⟩ : ∃ y, f = y + 1 := ⟨f - 1, by omega⟩
    refine ⟨c, v, ?_, by omega, by omega, fun _ => rfl, fun h => by omega, hM.cong (fun a r _ h => ?_)⟩
    · show bd_M_nextOnes_11 (nI q) p (nI s) kk_ONE kk_OTHER (it4 (bd_M_nextOnes_11 (nI q) p (nI s) kk_ONE kk_OTHER) f) (nI c) (nI k) (dgs q) v = _
      generalize it4 (bd_M_nextOnes_11 (nI q) p (nI s) kk_ONE kk_OTHER) f = F
      unfold bd_M_nextOnes_11
      rw [if_pos (show (15 : Int32) ≤ nI k from nI_le (a := 15) (by omega) (by omega))]
    · rcases h with h | ⟨-, k', h1, h2, -⟩
      · exact h
      · omega
  | succ j ih =>
    intro k c hk hc v Q hM f hf
    obtain ⟨f, rfl⟩ : ∃ y, f = y + 1 := ⟨f - 1, by omega⟩
    have hk15 : k < 15 := by omega
    have hq7 := hq.lt
    obtain ⟨hb1, -, hb3⟩ := nb_all hq7 hk15
    have st : bd_M_nextOnes_11 (nI q) p (nI s) kk_ONE kk_OTHER (it4 (bd_M_nextOnes_11 (nI q) p (nI s) kk_ONE kk_OTHER) f) (nI c) (nI k) (dgs q) v = if 0 ≤ v (if hb p k then nbN q k else q) then it4 (bd_M_nextOnes_11 (nI q) p (nI s) kk_ONE kk_OTHER) f (nI c) (nI (k + 1)) (dgs q) v else it4 (bd_M_nextOnes_11 (nI q) p (nI s) kk_ONE kk_OTHER) f (nI (c + 1)) (nI (k + 1)) (dgs q) (upd v (if hb p k then nbN q k else q) (nI (s + 1))) := by
      generalize it4 (bd_M_nextOnes_11 (nI q) p (nI s) kk_ONE kk_OTHER) f = F
      unfold bd_M_nextOnes_11
      rw [if_neg (show ¬ (15 : Int32) ≤ nI k from nI_ge (b := 15) hk15 (by decide)), bind_some' (has_hb p k)]
      by_cases z : hb p k
      · rw [if_pos z, if_pos z, n10, bind_some' hb3]
        unfold jn_M_nextOnes_37
        rw [kx_nI hb1 (by decide), nI_clamp (by omega), nI_1, nI_1, nI_1, kx_nI hb1 (by decide)]
      · rw [if_neg z, if_neg z, y00]
        unfold jn_M_nextOnes_37
        rw [kx_nI hq7 (by decide), nI_clamp (by omega), nI_1, nI_1, nI_1, kx_nI hq7 (by decide)]
    show ∃ (c' : Nat) (v' : Nat → Int32), bd_M_nextOnes_11 (nI q) p (nI s) kk_ONE kk_OTHER (it4 (bd_M_nextOnes_11 (nI q) p (nI s) kk_ONE kk_OTHER) f) (nI c) (nI k) (dgs q) v = some (nI c', dgs q, v') ∧ _
    rw [st]
    by_cases z : hb p k
    · rw [if_pos z]
      have he : (GG g hg p).E q (nbN q k) := ⟨hq7, k, hk15, z, rfl⟩
      rcases hM.edge hs hq he with ⟨a, b, m⟩ | ⟨a, m⟩
      · rw [if_neg a]
        obtain ⟨c', v', r1, r2, r3, r4, r5, r6⟩ := ih (k + 1) (c + 1) (by omega) (by omega) _ _ m f (by omega)
        refine ⟨c', v', r1, by omega, r3, fun h => by omega, fun _ => ⟨_, b⟩, r6.cong (fun x y _ h => ?_)⟩
        rcases h with h | ⟨h0, k', h1, h2, h3, h4⟩
        · exact Or.inl (Or.inl h)
        · by_cases e : k' = k
          · exact Or.inl (Or.inr ⟨h0, by rw [← h4, e]⟩)
          · exact Or.inr ⟨h0, k', by omega, h2, h3, h4⟩
      · rw [if_pos a]
        obtain ⟨c', v', r1, r2, r3, r4, r5, r6⟩ := ih (k + 1) c (by omega) (by omega) _ _ m f (by omega)
        refine ⟨c', v', r1, r2, r3, r4, r5, r6.cong (fun x y _ h => ?_)⟩
        rcases h with h | ⟨h0, k', h1, h2, h3, h4⟩
        · exact Or.inl (Or.inl h)
        · by_cases e : k' = k
          · exact Or.inl (Or.inr ⟨h0, by rw [← h4, e]⟩)
          · exact Or.inr ⟨h0, k', by omega, h2, h3, h4⟩
    · rw [if_neg z, if_pos (by rw [(hM.at_iff hs hq7).mpr hq]; exact nI_pos' (by omega))]
      obtain ⟨c', v', r1, r2, r3, r4, r5, r6⟩ := ih (k + 1) c (by omega) (by omega) _ _ hM f (by omega)
      refine ⟨c', v', r1, r2, r3, r4, r5, r6.cong (fun x y _ h => ?_)⟩
      rcases h with h | ⟨h0, k', h1, h2, h3, h4⟩
      · exact Or.inl h
      · by_cases e : k' = k
        · rw [e] at h3; exact absurd h3 z
        · exact Or.inr ⟨h0, k', by omega, h2, h3, h4⟩
theorem level_loop {g : Nat} {hg : g < 720} {p : Int32} {s : Nat} (hs : s < 720) (v0 : Nat → Int32) (R : Int32 → Int32 → (Nat → Int32) → (Nat → Int32) → Option ((Nat → Int32) × (Nat → Int32) × (Nat → Int32) × (Nat → Int32))) : ∀ j q c : Nat, q + j = 720 → c ≤ 15 * q → ∀ (D v : Nat → Int32), Zn 6 D → (GG g hg p).Mid s (fun a r => (GG g hg p).E a r ∧ a < q) v → (c = 0 → v = v0) → (0 < c → ∃ r, (GG g hg p).At r (s + 1)) → ∀ f, j < f → ∃ (c' : Nat) (D' v' : Nat → Int32), it4 (bd_M_findFar_50 p (nI s) kk_ONE kk_OTHER R) f (nI c) (nI q) D v = R (nI c') (nI (s + 1)) D' v' ∧ c' ≤ 10800 ∧ Zn 6 D' ∧ (c' = 0 → v' = v0) ∧ (0 < c' → ∃ r, (GG g hg p).At r (s + 1)) ∧ (GG g hg p).Fr (s + 1) v' := by
  intro j
  induction j with
  | zero =>
    intro q c hq hc D v hD hM h0 h1 f hf
    obtain ⟨f, rfl⟩ : ∃ y, f = y + 1 := ⟨f - 1, by omega⟩
    refine ⟨c, D, v, ?_, by omega, hD, h0, h1, (hM.cong (fun a r ha he => ⟨he, by have := ha.lt; omega⟩)).fr⟩
    show bd_M_findFar_50 p (nI s) kk_ONE kk_OTHER R (it4 (bd_M_findFar_50 p (nI s) kk_ONE kk_OTHER R) f) (nI c) (nI q) D v = _
    generalize it4 (bd_M_findFar_50 p (nI s) kk_ONE kk_OTHER R) f = F
    unfold bd_M_findFar_50
    rw [if_pos (show (720 : Int32) ≤ nI q from nI_le (a := 720) (by omega) (by omega)), nI_1]
  | succ j ih =>
    intro q c hq hc D v hD hM h0 h1 f hf
    obtain ⟨f, rfl⟩ : ∃ y, f = y + 1 := ⟨f - 1, by omega⟩
    have hq7 : q < 720 := by omega
    show ∃ (c' : Nat) (D' v' : Nat → Int32), bd_M_findFar_50 p (nI s) kk_ONE kk_OTHER R (it4 (bd_M_findFar_50 p (nI s) kk_ONE kk_OTHER R) f) (nI c) (nI q) D v = _ ∧ _
    by_cases z : v q = nI s
    · have hA := (hM.at_iff hs hq7).mp z
      obtain ⟨c', v', r1, r2, r3, r4, r5, r6⟩ := next_loop (g := g) (hg := hg) (p := p) hs hA 15 0 0 (by omega) (by omega) v _ hM 1100 (by omega)
      have hn : f_M_nextOnes (nI q) p (nI s) D v kk_ONE kk_OTHER = some (nI c', dgs q, v') := by
        unfold f_M_nextOnes
        rw [bind_some' (layDigits_dgs hq7 hD)]
        exact r1
      have st : bd_M_findFar_50 p (nI s) kk_ONE kk_OTHER R (it4 (bd_M_findFar_50 p (nI s) kk_ONE kk_OTHER R) f) (nI c) (nI q) D v = it4 (bd_M_findFar_50 p (nI s) kk_ONE kk_OTHER R) f (nI (c + c')) (nI (q + 1)) (dgs q) v' := by
        generalize it4 (bd_M_findFar_50 p (nI s) kk_ONE kk_OTHER R) f = F
        unfold bd_M_findFar_50
        rw [if_neg (show ¬ (720 : Int32) ≤ nI q from nI_ge (b := 720) hq7 (by decide)), kx_nI hq7 (by decide), nI_clamp (by omega), if_pos z, bind_some' hn, nI_1, nI_add]
      rw [st]
      refine ih (q + 1) (c + c') (by omega) (by omega) (dgs q) v' on6_Z (r6.cong (fun a r ha h => ?_)) (fun h => ?_) (fun h => ?_) f (by omega)
      · by_cases e : a = q
        · refine Or.inr ⟨e, ?_⟩
          obtain ⟨⟨-, k, k1, k2, k3⟩, -⟩ := h
          exact ⟨k, by omega, k1, k2, by rw [← e]; exact k3⟩
        · exact Or.inl ⟨h.1, by omega⟩
      · rw [r4 (by omega)]; exact h0 (by omega)
      · by_cases e : 0 < c
        · exact h1 e
        · exact r5 (by omega)
    · have st : bd_M_findFar_50 p (nI s) kk_ONE kk_OTHER R (it4 (bd_M_findFar_50 p (nI s) kk_ONE kk_OTHER R) f) (nI c) (nI q) D v = it4 (bd_M_findFar_50 p (nI s) kk_ONE kk_OTHER R) f (nI c) (nI (q + 1)) D v := by
        generalize it4 (bd_M_findFar_50 p (nI s) kk_ONE kk_OTHER R) f = F
        unfold bd_M_findFar_50
        rw [if_neg (show ¬ (720 : Int32) ≤ nI q from nI_ge (b := 720) hq7 (by decide)), kx_nI hq7 (by decide), nI_clamp (by omega), if_neg z, nI_1, add0]
      rw [st]
      refine ih (q + 1) c (by omega) (by omega) D v hD (hM.cong (fun a r ha h => ?_)) h0 h1 f (by omega)
      refine ⟨h.1, ?_⟩
      by_cases e : a = q
      · rw [e] at ha; exact absurd ((hM.at_iff hs hq7).mpr ha) z
      · omega
theorem far_loop {g : Nat} {hg : g < 720} {p : Int32} : ∀ j s c : Nat, s + j = 720 → c ≤ 10800 → ∀ (D v : Nat → Int32), Zn 6 D → (GG g hg p).Fr s v → (c = 0 → ∀ r, ¬ (GG g hg p).At r s) → (0 < c → ∃ r, (GG g hg p).At r s) → ∀ f, j < f → ∃ (D' v' : Nat → Int32), it4 (bd_M_findFar_41 p kk_ONE kk_OTHER) f (nI c) (nI s) D v = some (D', v', kk_ONE, kk_OTHER) ∧ Zn 6 D' ∧ (GG g hg p).Fin v' := by
  intro j
  induction j with
  | zero =>
    intro s c hs hc D v hD hF h0 h1 f hf
    obtain ⟨f, rfl⟩ : ∃ y, f = y + 1 := ⟨f - 1, by omega⟩
    by_cases e : c = 0
    · refine ⟨D, v, ?_, hD, hF.fin (h0 e)⟩
      show bd_M_findFar_41 p kk_ONE kk_OTHER (it4 (bd_M_findFar_41 p kk_ONE kk_OTHER) f) (nI c) (nI s) D v = _
      generalize it4 (bd_M_findFar_41 p kk_ONE kk_OTHER) f = F
      unfold bd_M_findFar_41
      rw [e, if_pos (show nI 0 ≤ 0 by decide)]
    · obtain ⟨r, hr⟩ := h1 (by omega)
      have := hr.small
      omega
  | succ j ih =>
    intro s c hs hc D v hD hF h0 h1 f hf
    obtain ⟨f, rfl⟩ : ∃ y, f = y + 1 := ⟨f - 1, by omega⟩
    show ∃ (D' v' : Nat → Int32), bd_M_findFar_41 p kk_ONE kk_OTHER (it4 (bd_M_findFar_41 p kk_ONE kk_OTHER) f) (nI c) (nI s) D v = _ ∧ _
    by_cases e : c = 0
    · refine ⟨D, v, ?_, hD, hF.fin (h0 e)⟩
      generalize it4 (bd_M_findFar_41 p kk_ONE kk_OTHER) f = F
      unfold bd_M_findFar_41
      rw [e, if_pos (show nI 0 ≤ 0 by decide)]
    · obtain ⟨c', D', v', r1, r2, r3, r4, r5, r6⟩ := level_loop (g := g) (hg := hg) (p := p) (s := s) (by omega) v (it4 (bd_M_findFar_41 p kk_ONE kk_OTHER) f) 720 0 0 (by omega) (by omega) D v hD (hF.mid.cong (fun a r _ h => by omega)) (fun _ => rfl) (fun h => by omega) 1100 (by omega)
      have hno : c' = 0 → ∀ r, ¬ (GG g hg p).At r (s + 1) := by
        intro hc0 r hr
        have hv := r4 hc0
        subst hv
        have hr7 := hr.lt
        rcases hF r hr7 with ⟨t, a, b, -⟩ | ⟨-, b⟩
        · have := b.uniq hr; omega
        · rcases r6 r hr7 with ⟨t, a', b', c2⟩ | ⟨a', -⟩
          · rw [b] at c2; exact nI_ne_m6 (by omega) c2.symm
          · exact a' hr.1
      obtain ⟨D2, v2, t1, t2, t3⟩ := ih (s + 1) c' (by omega) r2 D' v' r3 r6 hno r5 f (by omega)
      refine ⟨D2, v2, ?_, t2, t3⟩
      rw [← t1, ← r1]
      generalize it4 (bd_M_findFar_41 p kk_ONE kk_OTHER) f = F
      unfold bd_M_findFar_41
      rw [if_neg (show ¬ nI c ≤ 0 from nI_ge (b := c) (a := 0) (by omega) (by omega))]
      rfl
def far0 (g : Nat) (v : Nat → Int32) : Nat → Nat → Int32
  | 0 => v
  | i + 1 => upd (far0 g v i) i (if i = g then 0 else -6)
theorem far0_at {g : Nat} {v : Nat → Int32} : ∀ n i, i < n → far0 g v n i = if i = g then 0 else -6 := by
  intro n
  induction n with
  | zero => intro i hi; omega
  | succ n ih =>
    intro i hi
    show upd (far0 g v n) n _ i = _
    by_cases z : i = n
    · rw [z, upd_at]
    · rw [upd_ne z]; exact ih i (by omega)
theorem findFarM {g : Nat} (hg : g < 720) (p : Int32) {D a b : Nat → Int32} (v : Nat → Int32) (hD : Zn 6 D) (ha : Zn 15 a) (hb : Zn 15 b) : ∃ D' v', f_M_findFar (nI g) p D v a b = some (D', v', kk_ONE, kk_OTHER) ∧ Zn 6 D' ∧ (GG g hg p).Fin v' := by
  have hF : (GG g hg p).Fr 0 (far0 g v 720) := by
    intro r hr
    by_cases z : r = g
    · refine Or.inl ⟨0, by omega, ?_, ?_⟩
      · rw [z]; exact (GG g hg p).at0
      · rw [far0_at 720 r hr, if_pos z]; rfl
    · exact Or.inr ⟨fun y => z y, by rw [far0_at 720 r hr, if_neg z]⟩
  obtain ⟨D', v', h1, h2, h3⟩ := far_loop (g := g) (hg := hg) (p := p) 720 0 1 (by omega) (by omega) D _ hD hF (fun h => by omega) (fun _ => ⟨g, (GG g hg p).at0⟩) 1100 (by omega)
  refine ⟨D', v', ?_, h2, h3⟩
  unfold f_M_findFar
  rw [bind_some' (findPairs_eq ha hb), ← h1]
  refine it2_seq (F := bd_M_findFar_6 (nI g) p D kk_ONE kk_OTHER) (fun i => nI i) (fun i => far0 g v i) 720 ?_ ?_ 1100 (by decide)
  · intro i hi R
    show bd_M_findFar_6 (nI g) p D kk_ONE kk_OTHER R (nI i) (far0 g v i) = R (nI (i + 1)) (upd (far0 g v i) i (if i = g then 0 else -6))
    unfold bd_M_findFar_6
    rw [if_neg (show ¬ (720 : Int32) ≤ nI i from nI_ge (b := 720) hi (by decide)), kx_nI hi (by decide), kx_nI hi (by decide), nI_clamp (by omega), nI_1]
    by_cases z : i = g
    · rw [if_pos z, if_pos (by rw [z])]
    · rw [if_neg z, if_neg (fun y => z ((nI_eq (by omega) (by omega)).mp y))]
  · intro R
    show bd_M_findFar_6 (nI g) p D kk_ONE kk_OTHER R (nI 720) (far0 g v 720) = _
    unfold bd_M_findFar_6
    rw [if_pos (show (720 : Int32) ≤ nI 720 by decide)]
    rfl
theorem layNow_eq {a b c d e f : Nat} {D : Nat → Int32} (hD : Zn 6 D) : f_M_layNow (on6 a b c d e f) D = some (on6 a b c d e f) := by
  have h := upd6 (on6 a b c d e f) D
  rw [fill_eq on6_Z hD] at h
  exact (show f_M_layNow (on6 a b c d e f) D = some (upd (upd (upd (upd (upd (upd D 0 (on6 a b c d e f 0)) 1 (on6 a b c d e f 1)) 2 (on6 a b c d e f 2)) 3 (on6 a b c d e f 3)) 4 (on6 a b c d e f 4)) 5 (on6 a b c d e f 5)) from rfl).trans (by rw [h])
/-- the least pair, found from above: behind j steps -/
def lp (P : Nat → Bool) : Nat → Int32
  | 0 => -6
  | j + 1 => if P (14 - j) = true then nI (14 - j) else lp P j
def stp (p : Int32) (x t : Nat) (w : Nat → Int32) (k : Nat) : Bool := decide (hb p k) && decide (w (nbN x k) = nI (t - 1))
theorem sub1 {t : Nat} (h : 1 ≤ t) : nI t - 1 = nI (t - 1) := pk_sub (b := 1) h
theorem pairC {x t : Nat} (hx : x < 720) (p : Int32) (v : Nat → Int32) (hv : v x = nI t) (ht : t < 720) (h1 : 1 ≤ t) : f_P_pairFrom (ord x) p v = some (lp (stp p x t v) 15) := by
  unfold f_P_pairFrom
  rw [bind_some' (steps_eq hx v), hv, if_pos (show (1 : Int32) ≤ nI t from nI_le (a := 1) h1 (by omega))]
  have key : ∀ j k : Nat, k + j = 15 → ∀ f, j < f → it1 (bd_P_pairFrom_17 (ord x) p (nI t) v) f (nI k) = some (lp (stp p x t v) j) := by
    intro j
    induction j with
    | zero =>
      intro k hk f hf
      obtain ⟨f, rfl⟩ : ∃ y, f = y + 1 := ⟨f - 1, by omega⟩
      show bd_P_pairFrom_17 (ord x) p (nI t) v (it1 (bd_P_pairFrom_17 (ord x) p (nI t) v) f) (nI k) = _
      generalize it1 (bd_P_pairFrom_17 (ord x) p (nI t) v) f = F
      unfold bd_P_pairFrom_17
      rw [if_pos (show (15 : Int32) ≤ nI k from nI_le (a := 15) (by omega) (by omega))]
      rfl
    | succ j ih =>
      intro k hk f hf
      obtain ⟨f, rfl⟩ : ∃ y, f = y + 1 := ⟨f - 1, by omega⟩
      have hk15 : k < 15 := by omega
      obtain ⟨n1, n2, -⟩ := nb_all hx hk15
      have ih' := ih (k + 1) (by omega) f (by omega)
      show bd_P_pairFrom_17 (ord x) p (nI t) v (it1 (bd_P_pairFrom_17 (ord x) p (nI t) v) f) (nI k) = some (if stp p x t v (14 - j) = true then nI (14 - j) else lp (stp p x t v) j)
      generalize it1 (bd_P_pairFrom_17 (ord x) p (nI t) v) f = F at ih' ⊢
      unfold bd_P_pairFrom_17
      rw [if_neg (show ¬ (15 : Int32) ≤ nI k from nI_ge (b := 15) hk15 (by decide)), kx_nI hk15 (by decide), kx_nI hk15 (by decide), nI_clamp (by omega), bind_some' n2, bind_some' (steps_eq n1 v), nI_1, sub1 h1, show 14 - j = k by omega, ih']
      unfold stp
      by_cases z : hb p k
      · rw [if_pos (show ((p >>> (nI k &&& 31)) &&& 1) = 1 from z), decide_eq_true z, Bool.true_and]
        by_cases y : v (nbN x k) = nI (t - 1)
        · rw [if_pos y, decide_eq_true y, if_pos rfl]
        · rw [if_neg y, decide_eq_false y, if_neg (by decide)]
      · rw [if_neg (show ¬ ((p >>> (nI k &&& 31)) &&& 1) = 1 from z), decide_eq_false z, Bool.false_and, if_neg (by decide)]
  exact key 15 0 (by omega) 1100 (by omega)
theorem pairM {x t : Nat} (hx : x < 720) (p : Int32) (w on : Nat → Int32) (ht : t < 720) (h1 : 1 ≤ t) : it3 (bd_M_by_72 p (nI t) on w kk_ONE kk_OTHER) 1100 (-6) 14 (dgs x) = some (lp (stp p x t w) 15, dgs x, w, kk_ONE, kk_OTHER) := by
  refine it3_seq (F := bd_M_by_72 p (nI t) on w kk_ONE kk_OTHER) (fun j => lp (stp p x t w) j) (fun j => if j < 15 then nI (14 - j) else -1) (fun _ => dgs x) 15 ?_ ?_ 1100 (by decide)
  · intro j hj R
    have hk : 14 - j < 15 := by omega
    obtain ⟨n1, -, n3⟩ := nb_all hx hk
    show bd_M_by_72 p (nI t) on w kk_ONE kk_OTHER R (lp (stp p x t w) j) (if j < 15 then nI (14 - j) else -1) (dgs x) = R (if stp p x t w (14 - j) = true then nI (14 - j) else lp (stp p x t w) j) (if j + 1 < 15 then nI (14 - (j + 1)) else -1) (dgs x)
    have e : nI (14 - j) + (-1) = if j + 1 < 15 then nI (14 - (j + 1)) else -1 := by
      by_cases z : j + 1 < 15
      · rw [if_pos z, show 14 - j = (14 - (j + 1)) + 1 by omega, ← nI_1]
        show nI (14 - (j + 1)) + 1 + -1 = _
        rw [Int32.add_assoc]; exact Int32.add_zero _
      · rw [if_neg z, show 14 - j = 0 by omega]; decide
    rw [if_pos hj]
    unfold bd_M_by_72
    rw [if_neg (show ¬ nI (14 - j) < 0 from nI_nlt (b := 0) (by omega) (by omega)), if_neg (show ¬ nI t ≤ 0 from nI_ge (b := t) (a := 0) (by omega) (by omega)), bind_some' (has_hb p (14 - j)), bind_some' n3]
    unfold stp jn_M_by_113 jn_M_by_114
    rw [e]
    by_cases z : hb p (14 - j)
    · rw [if_pos z, n10, kx_nI n1 (by decide), nI_clamp (by omega), sub1 h1, decide_eq_true z, Bool.true_and]
      by_cases y : w (nbN x (14 - j)) = nI (t - 1)
      · rw [if_pos y, decide_eq_true y, n10, if_pos rfl]
      · rw [if_neg y, decide_eq_false y, y00, if_neg (show ¬ false = true by decide)]
    · rw [if_neg z, y00, decide_eq_false z, Bool.false_and, if_neg (show ¬ false = true by decide), y00]
  · intro R
    show bd_M_by_72 p (nI t) on w kk_ONE kk_OTHER R (lp (stp p x t w) 15) (if 15 < 15 then nI (14 - 15) else -1) (dgs x) = _
    unfold bd_M_by_72
    rw [if_pos (by decide)]
theorem pairM0 {z : Int32} (hz : z ≤ 0) (x : Nat) (p : Int32) (w on : Nat → Int32) : it3 (bd_M_by_72 p z on w kk_ONE kk_OTHER) 1100 (-6) 14 (dgs x) = some (-6, dgs x, w, kk_ONE, kk_OTHER) := by
  refine it3_seq (F := bd_M_by_72 p z on w kk_ONE kk_OTHER) (fun j => -6) (fun j => if j < 15 then nI (14 - j) else -1) (fun _ => dgs x) 15 ?_ ?_ 1100 (by decide)
  · intro j hj R
    show bd_M_by_72 p z on w kk_ONE kk_OTHER R (-6) (if j < 15 then nI (14 - j) else -1) (dgs x) = R (-6) (if j + 1 < 15 then nI (14 - (j + 1)) else -1) (dgs x)
    have e : nI (14 - j) + (-1) = if j + 1 < 15 then nI (14 - (j + 1)) else -1 := by
      by_cases z : j + 1 < 15
      · rw [if_pos z, show 14 - j = (14 - (j + 1)) + 1 by omega, ← nI_1]
        show nI (14 - (j + 1)) + 1 + -1 = _
        rw [Int32.add_assoc]; exact Int32.add_zero _
      · rw [if_neg z, show 14 - j = 0 by omega]; decide
    rw [if_pos hj]
    unfold bd_M_by_72
    rw [if_neg (show ¬ nI (14 - j) < 0 from nI_nlt (b := 0) (by omega) (by omega)), if_pos hz]
    unfold jn_M_by_113 jn_M_by_114
    rw [e, if_pos rfl]
  · intro R
    show bd_M_by_72 p z on w kk_ONE kk_OTHER R (-6) (if 15 < 15 then nI (14 - 15) else -1) (dgs x) = _
    unfold bd_M_by_72
    rw [if_pos (by decide)]
theorem op_by {o qn : Int32} {rw_ dd st qu fr a b : Nat → Int32} (p1 p2 p3 : Int32) (ho : ∃ a b c d e f, P6 a b c d e f ∧ o = or6 a b c d e f ∧ rw_ = on6 a b c d e f) (hz : Zn 6 dd) (ha : Zn 15 a) (hb : Zn 15 b) : ∃ (r qn' : Int32) (st' qu' D F A B : Nat → Int32), f_C_by p1 p2 p3 o qn st qu = some (r, qn', st', qu') ∧ f_M_by p1 p2 p3 rw_ dd fr a b = some (r, D, F, A, B) ∧ Zn 6 D ∧ Zn 15 A ∧ Zn 15 B := by
  obtain ⟨a0, b0, c0, d0, e0, f0, hp, rfl, rfl⟩ := ho
  have i2 := inL_eq p2 (lo := 0) (hi := 32767) (by decide) (by decide)
  have i3 := inL_eq p3 (lo := 0) (hi := 1) (by decide) (by decide)
  unfold f_C_by f_M_by
  rcases readRow_cases p1 hz with ⟨a', b', c', d', e', f', hq, h1, h2⟩ | ⟨h1, D, hD, h2⟩
  · rw [bind_some' h1, bind_some' h2, if_neg (or6_ne hq), n10]
    rcases within_cases p2 (lo := 0) (hi := 32767) (by decide) (by decide) with ⟨m, -, hm, rfl, w2⟩ | w2
    · rw [w2] at i2
      rw [bind_some' (show f_C_isWithin (nI m) 0 32767 = some 1 from w2), bind_some' (show f_M_in (Int32.toInt64 (nI m)) 0 32767 = some 1 from i2), n10, n10]
      rcases within_cases p3 (lo := 0) (hi := 1) (by decide) (by decide) with ⟨y, -, hy, rfl, w3⟩ | w3
      · rw [w3] at i3
        rw [bind_some' (show f_C_isWithin (nI y) 0 1 = some 1 from w3), bind_some' (show f_M_in (Int32.toInt64 (nI y)) 0 1 = some 1 from i3), n10, n10]
        have hg := rk_lt hq
        have hx := rk_lt hp
        obtain ⟨n', v', w', c1, c2⟩ := measureC hg hx (nI m) qn st qu
        obtain ⟨D', F', m1, m2, m3⟩ := findFarM hg (nI m) (D := on6 a' b' c' d' e' f') fr on6_Z ha hb
        obtain ⟨s1, s2, s3⟩ := Gr.same hx c2 m3
        rw [ord_rk hp, ord_rk hq] at c1
        rw [bind_some' c1, bind_some' (rkM hq), bind_some' m1]
        dsimp only
        rw [bind_some' (layNow_eq m2), bind_some' (rkM hp), kx_nI hx (by decide), nI_clamp (by omega), ← ord_rk hp, bind_some' (steps_eq hx v'), ← dgs_rk hp]
        by_cases c : nI y = 0
        · rw [if_pos c, if_pos c, s1]
          exact ⟨_, _, _, _, _, _, _, _, rfl, rfl, on6_Z, ONE_Z, OTHER_Z⟩
        · rw [if_neg c, if_neg c, ← s1]
          rcases s2 with s2 | ⟨t, ht, s2⟩
          · have hC : f_P_pairFrom (ord (rk a0 b0 c0 d0 e0 f0)) (nI m) v' = some (-6) := by
              unfold f_P_pairFrom
              rw [bind_some' (steps_eq hx v'), s2, if_neg (by decide)]
            rw [bind_some' hC, s2, pairM0 (by decide)]
            exact ⟨_, _, _, _, _, _, _, _, rfl, rfl, on6_Z, ONE_Z, OTHER_Z⟩
          · by_cases t1 : 1 ≤ t
            · have hlp : ∀ j, j ≤ 15 → lp (stp (nI m) (rk a0 b0 c0 d0 e0 f0) t v') j = lp (stp (nI m) (rk a0 b0 c0 d0 e0 f0) t F') j := by
                intro j
                induction j with
                | zero => intro _; rfl
                | succ j ih =>
                  intro hj
                  have e : stp (nI m) (rk a0 b0 c0 d0 e0 f0) t v' (14 - j) = stp (nI m) (rk a0 b0 c0 d0 e0 f0) t F' (14 - j) := by
                    unfold stp
                    rw [show decide (v' (nbN (rk a0 b0 c0 d0 e0 f0) (14 - j)) = nI (t - 1)) = decide (F' (nbN (rk a0 b0 c0 d0 e0 f0) (14 - j)) = nI (t - 1)) from decide_eq_decide.mpr (s3 t s2 t1 ht _ (nb_all hx (by omega)).1)]
                  show (if stp (nI m) (rk a0 b0 c0 d0 e0 f0) t v' (14 - j) = true then nI (14 - j) else lp (stp (nI m) (rk a0 b0 c0 d0 e0 f0) t v') j) = (if stp (nI m) (rk a0 b0 c0 d0 e0 f0) t F' (14 - j) = true then nI (14 - j) else lp (stp (nI m) (rk a0 b0 c0 d0 e0 f0) t F') j)
                  rw [e, ih (by omega)]
              rw [bind_some' (pairC hx (nI m) v' s2 ht t1), s2, pairM hx (nI m) F' _ ht t1, hlp 15 (by omega)]
              exact ⟨_, _, _, _, _, _, _, _, rfl, rfl, on6_Z, ONE_Z, OTHER_Z⟩
            · have t0 : t = 0 := by omega
              rw [t0] at s2
              have hC : f_P_pairFrom (ord (rk a0 b0 c0 d0 e0 f0)) (nI m) v' = some (-6) := by
                unfold f_P_pairFrom
                rw [bind_some' (steps_eq hx v'), s2, if_neg (by decide)]
              rw [bind_some' hC, s2, pairM0 (by decide)]
              exact ⟨_, _, _, _, _, _, _, _, rfl, rfl, on6_Z, ONE_Z, OTHER_Z⟩
      · rw [w3] at i3
        rw [bind_some' (show f_C_isWithin p3 0 1 = some 0 from w3), bind_some' (show f_M_in (Int32.toInt64 p3) 0 1 = some 0 from i3), y00, y00]
        exact ⟨_, _, _, _, _, _, _, _, rfl, rfl, on6_Z, ha, hb⟩
    · rw [w2] at i2
      rw [bind_some' (show f_C_isWithin p2 0 32767 = some 0 from w2), bind_some' (show f_M_in (Int32.toInt64 p2) 0 32767 = some 0 from i2), y00, y00]
      exact ⟨_, _, _, _, _, _, _, _, rfl, rfl, on6_Z, ha, hb⟩
  · rw [bind_some' h1, bind_some' h2, if_pos rfl, y00]
    exact ⟨_, _, _, _, _, _, _, _, rfl, rfl, hD, ha, hb⟩
