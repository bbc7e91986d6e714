/-! how far an order is from another by told pairs alone: a graph of 720, searched by levels and by a queue -/
def Gr : Type := {p : Nat × (Nat → Nat → Prop) // p.1 < 720 ∧ ∀ q r, p.2 q r → q < 720 ∧ r < 720}
def Gr.g (G : Gr) : Nat := G.1.1
def Gr.E (G : Gr) : Nat → Nat → Prop := G.1.2
theorem Gr.hg (G : Gr) : G.g < 720 := G.2.1
theorem Gr.hE (G : Gr) : ∀ q r, G.E q r → q < 720 ∧ r < 720 := G.2.2
def Gr.lv (G : Gr) : Nat → Nat → Prop
  | 0, r => r = G.g
  | s + 1, r => G.lv s r ∨ ∃ q, G.lv s q ∧ G.E q r
/-- first reached behind s steps -/
def Gr.At (G : Gr) (r s : Nat) : Prop := G.lv s r ∧ ∀ t, t < s → ¬ G.lv t r
theorem Gr.mono (G : Gr) {r s : Nat} (h : G.lv s r) : ∀ j, G.lv (s + j) r := by
  intro j
  induction j with
  | zero => exact h
  | succ j ih => exact Or.inl ih
theorem Gr.mono' (G : Gr) {r s t : Nat} (h : G.lv s r) (hst : s ≤ t) : G.lv t r := by
  have := G.mono h (t - s)
  rw [show s + (t - s) = t by omega] at this
  exact this
theorem Gr.lv_lt (G : Gr) : ∀ {s r : Nat}, G.lv s r → r < 720 := by
  intro s
  induction s with
  | zero => intro r h; rw [show r = G.g from h]; exact G.hg
  | succ s ih =>
    intro r h
    rcases h with h | ⟨q, -, h⟩
    · exact ih h
    · exact (G.hE q r h).2
theorem Gr.At.lt {G : Gr} {r s : Nat} (h : G.At r s) : r < 720 := G.lv_lt h.1
theorem Gr.At.uniq {G : Gr} {r s t : Nat} (h : G.At r s) (h2 : G.At r t) : s = t := by
  by_cases a : s < t
  · exact absurd h.1 (h2.2 s a)
  · by_cases b : t < s
    · exact absurd h2.1 (h.2 t b)
    · omega
theorem Gr.lv_At (G : Gr) : ∀ {s r : Nat}, G.lv s r → ∃ t, t ≤ s ∧ G.At r t := by
  intro s
  induction s with
  | zero => intro r h; exact ⟨0, by omega, h, fun t ht => by omega⟩
  | succ s ih =>
    intro r h
    by_cases q : G.lv s r
    · obtain ⟨t, a, b⟩ := ih q; exact ⟨t, by omega, b⟩
    · exact ⟨s + 1, by omega, h, fun t ht y => q (G.mono' y (by omega))⟩
theorem Gr.At.pred {G : Gr} {r s : Nat} (h : G.At r (s + 1)) : ∃ q, G.At q s ∧ G.E q r := by
  rcases h.1 with a | ⟨q, a, b⟩
  · exact absurd a (h.2 s (by omega))
  · exact ⟨q, ⟨a, fun t ht y => h.2 (t + 1) (by omega) (Or.inr ⟨q, y, b⟩)⟩, b⟩
theorem Gr.At.zero {G : Gr} {r : Nat} (h : G.At r 0) : r = G.g := h.1
theorem Gr.at0 (G : Gr) : G.At G.g 0 := ⟨rfl, fun t ht => by omega⟩
/-- all is right: how far each is, or that it is never reached -/
def Gr.Fin (G : Gr) (v : Nat → Int32) : Prop := ∀ r, r < 720 → (∃ t, t < 720 ∧ G.At r t ∧ v r = nI t) ∨ ((∀ t, ¬ G.lv t r) ∧ v r = -6)
/-- a level below 720 has nothing new -/
theorem Gr.levels (G : Gr) {N : Nat} (h : ∀ s, s ≤ N → ∃ r, G.At r s) : N < 720 := by
  by_cases q : N < 720
  · exact q
  · exfalso
    obtain ⟨f, hf⟩ : ∃ f : Nat → Nat, ∀ s, s ≤ N → G.At (f s) s := by
      refine ⟨fun s => if hs : s ≤ N then Classical.choose (h s hs) else 0, fun s hs => ?_⟩
      dsimp only
      rw [dif_pos hs]
      exact Classical.choose_spec (h s hs)
    obtain ⟨i, j, h1, h2, h3⟩ := fb_twice (m := 720) (n := N + 1) (f := f) (fun i hi => (hf i (by omega)).lt) (by omega)
    have a := hf i (by omega)
    rw [h3] at a
    have := a.uniq (hf j (by omega))
    omega
theorem Gr.At.below {G : Gr} : ∀ {s r : Nat}, G.At r s → ∀ t, t ≤ s → ∃ q, G.At q t := by
  intro s
  induction s with
  | zero => intro r h t ht; exact ⟨r, by rw [show t = 0 by omega]; exact h⟩
  | succ s ih =>
    intro r h t ht
    by_cases q : t = s + 1
    · exact ⟨r, by rw [q]; exact h⟩
    · obtain ⟨q, hq, -⟩ := h.pred
      exact ih hq t (by omega)
theorem Gr.At.small {G : Gr} {r s : Nat} (h : G.At r s) : s < 720 := G.levels (N := s) (fun t ht => h.below t ht)
/-! the reference: level by level -/
def Gr.Fr (G : Gr) (s : Nat) (v : Nat → Int32) : Prop := ∀ r, r < 720 → (∃ t, t ≤ s ∧ G.At r t ∧ v r = nI t) ∨ (¬ G.lv s r ∧ v r = -6)
/-- within a level: Q says which edges have been gone -/
def Gr.Mid (G : Gr) (s : Nat) (Q : Nat → Nat → Prop) (v : Nat → Int32) : Prop := ∀ r, r < 720 → (∃ t, t ≤ s ∧ G.At r t ∧ v r = nI t) ∨ (G.At r (s + 1) ∧ v r = nI (s + 1)) ∨ (¬ G.lv s r ∧ v r = -6 ∧ ∀ q, G.At q s → Q q r → False)
theorem Gr.Fr.mid {G : Gr} {s : Nat} {v : Nat → Int32} (h : G.Fr s v) : G.Mid s (fun _ _ => False) v := fun r hr => by
  rcases h r hr with a | ⟨a, b⟩
  · exact Or.inl a
  · exact Or.inr (Or.inr ⟨a, b, fun _ _ z => z⟩)
theorem Gr.Mid.fr {G : Gr} {s : Nat} {v : Nat → Int32} (h : G.Mid s G.E v) : G.Fr (s + 1) v := fun r hr => by
  rcases h r hr with ⟨t, a, b, c⟩ | ⟨a, b⟩ | ⟨a, b, c⟩
  · exact Or.inl ⟨t, by omega, b, c⟩
  · exact Or.inl ⟨s + 1, by omega, a, b⟩
  · refine Or.inr ⟨fun z => ?_, b⟩
    have hA : G.At r (s + 1) := ⟨z, fun t ht y => a (G.mono' y (by omega))⟩
    obtain ⟨q, h1, h2⟩ := hA.pred
    exact c q h1 h2
theorem Gr.Mid.cong {G : Gr} {s : Nat} {v : Nat → Int32} {Q Q' : Nat → Nat → Prop} (h : G.Mid s Q v) (hq : ∀ q r, G.At q s → Q' q r → Q q r) : G.Mid s Q' v := fun r hr => by
  rcases h r hr with a | a | ⟨a, b, c⟩
  · exact Or.inl a
  · exact Or.inr (Or.inl a)
  · exact Or.inr (Or.inr ⟨a, b, fun q h1 h2 => c q h1 (hq q r h1 h2)⟩)
/-- what stands at a node tells whether it is at this level -/
theorem Gr.Mid.at_iff {G : Gr} {s : Nat} {v : Nat → Int32} {Q : Nat → Nat → Prop} (h : G.Mid s Q v) (hs : s < 720) {r : Nat} (hr : r < 720) : v r = nI s ↔ G.At r s := by
  constructor
  · intro z
    rcases h r hr with ⟨t, a, b, c⟩ | ⟨a, b⟩ | ⟨a, b, c⟩
    · rw [z] at c
      have := (nI_eq (by omega) (by omega)).mp c
      rw [this]; exact b
    · rw [z] at b
      have := (nI_eq (a := s) (b := s + 1) (by omega) (by omega)).mp b
      omega
    · rw [z] at b; exact absurd b (nI_ne_m6 (by omega))
  · intro z
    rcases h r hr with ⟨t, a, b, c⟩ | ⟨a, b⟩ | ⟨a, b, c⟩
    · rw [c, b.uniq z]
    · have := a.uniq z; omega
    · exact absurd z.1 a
/-- one edge gone: set, or left as it was -/
theorem Gr.Mid.edge {G : Gr} {s : Nat} {v : Nat → Int32} {Q : Nat → Nat → Prop} (h : G.Mid s Q v) (hs : s < 720) {q r : Nat} (hq : G.At q s) (he : G.E q r) : (¬ 0 ≤ v r ∧ G.At r (s + 1) ∧ G.Mid s (fun x y => Q x y ∨ (x = q ∧ y = r)) (upd v r (nI (s + 1)))) ∨ (0 ≤ v r ∧ G.Mid s (fun x y => Q x y ∨ (x = q ∧ y = r)) v) := by
  have hr := (G.hE q r he).2
  have hpos : ∀ t, t < 2 ^ 31 → (0 : Int32) ≤ nI t := fun t ht => nI_pos' ht
  have hkeep : ∀ t, t < 2 ^ 31 → v r = nI t → G.Mid s (fun x y => Q x y ∨ (x = q ∧ y = r)) v := by
    intro t ht hv y hy
    rcases h y hy with a | a | ⟨a, b, c⟩
    · exact Or.inl a
    · exact Or.inr (Or.inl a)
    · refine Or.inr (Or.inr ⟨a, b, fun x h1 h2 => ?_⟩)
      rcases h2 with h2 | ⟨-, h2⟩
      · exact c x h1 h2
      · rw [h2, hv] at b
        exact nI_ne_m6 ht b
  rcases h r hr with ⟨t, a, b, c⟩ | ⟨a, b⟩ | ⟨a, b, c⟩
  · exact Or.inr ⟨by rw [c]; exact hpos t (by omega), hkeep t (by omega) c⟩
  · exact Or.inr ⟨by rw [b]; exact hpos (s + 1) (by omega), hkeep (s + 1) (by omega) b⟩
  · have hA : G.At r (s + 1) := ⟨Or.inr ⟨q, hq.1, he⟩, fun t ht y => a (G.mono' y (by omega))⟩
    refine Or.inl ⟨by rw [b]; decide, hA, fun y hy => ?_⟩
    by_cases z : y = r
    · subst z
      rw [upd_at]
      exact Or.inr (Or.inl ⟨hA, rfl⟩)
    · rw [upd_ne z]
      rcases h y hy with a | a | ⟨a, b, c⟩
      · exact Or.inl a
      · exact Or.inr (Or.inl a)
      · refine Or.inr (Or.inr ⟨a, b, fun x h1 h2 => ?_⟩)
        rcases h2 with h2 | ⟨-, h2⟩
        · exact c x h1 h2
        · exact z h2
/-- nothing new at a level: all is right -/
theorem Gr.Fr.fin {G : Gr} {s : Nat} {v : Nat → Int32} (h : G.Fr s v) (hn : ∀ r, ¬ G.At r s) : G.Fin v := fun r hr => by
  rcases h r hr with ⟨t, a, b, c⟩ | ⟨a, b⟩
  · exact Or.inl ⟨t, b.small, b, c⟩
  · refine Or.inr ⟨fun t z => ?_, b⟩
    obtain ⟨u, h1, h2⟩ := G.lv_At z
    by_cases y : u < s
    · exact a (G.mono' h2.1 (by omega))
    · obtain ⟨q, hq⟩ := h2.below s (by omega)
      exact hn q hq
/-! the class: a queue -/
def Gr.Qu (G : Gr) (i n : Nat) (v : Nat → Int32) (qr d : Nat → Nat) : Prop := (1 ≤ n) ∧ (i ≤ n) ∧ (∀ j, j < n → G.At (qr j) (d j) ∧ v (qr j) = nI (d j)) ∧ (∀ j k, j < k → k < n → qr j ≠ qr k) ∧ (∀ r, r < 720 → v r = -6 ∨ ∃ j, j < n ∧ qr j = r) ∧ (∀ j k, j ≤ k → k < n → d j ≤ d k) ∧ (∀ j, j < n → i < n → d j ≤ d i + 1) ∧ (∀ j, j < i → ∀ r, G.E (qr j) r → v r ≠ -6) ∧ (∀ j, j < n → ∀ m r, m < d j → G.At r m → v r ≠ -6) ∧ (v G.g ≠ -6)
theorem Gr.Qu.h1 {G : Gr} {i n : Nat} {v : Nat → Int32} {qr d : Nat → Nat} (h : G.Qu i n v qr d) : 1 ≤ n := (show (1 ≤ n) ∧ (i ≤ n) ∧ (∀ j, j < n → G.At (qr j) (d j) ∧ v (qr j) = nI (d j)) ∧ (∀ j k, j < k → k < n → qr j ≠ qr k) ∧ (∀ r, r < 720 → v r = -6 ∨ ∃ j, j < n ∧ qr j = r) ∧ (∀ j k, j ≤ k → k < n → d j ≤ d k) ∧ (∀ j, j < n → i < n → d j ≤ d i + 1) ∧ (∀ j, j < i → ∀ r, G.E (qr j) r → v r ≠ -6) ∧ (∀ j, j < n → ∀ m r, m < d j → G.At r m → v r ≠ -6) ∧ (v G.g ≠ -6) from h).1
theorem Gr.Qu.hin {G : Gr} {i n : Nat} {v : Nat → Int32} {qr d : Nat → Nat} (h : G.Qu i n v qr d) : i ≤ n := (show (1 ≤ n) ∧ (i ≤ n) ∧ (∀ j, j < n → G.At (qr j) (d j) ∧ v (qr j) = nI (d j)) ∧ (∀ j k, j < k → k < n → qr j ≠ qr k) ∧ (∀ r, r < 720 → v r = -6 ∨ ∃ j, j < n ∧ qr j = r) ∧ (∀ j k, j ≤ k → k < n → d j ≤ d k) ∧ (∀ j, j < n → i < n → d j ≤ d i + 1) ∧ (∀ j, j < i → ∀ r, G.E (qr j) r → v r ≠ -6) ∧ (∀ j, j < n → ∀ m r, m < d j → G.At r m → v r ≠ -6) ∧ (v G.g ≠ -6) from h).2.1
theorem Gr.Qu.at_ {G : Gr} {i n : Nat} {v : Nat → Int32} {qr d : Nat → Nat} (h : G.Qu i n v qr d) : ∀ j, j < n → G.At (qr j) (d j) ∧ v (qr j) = nI (d j) := (show (1 ≤ n) ∧ (i ≤ n) ∧ (∀ j, j < n → G.At (qr j) (d j) ∧ v (qr j) = nI (d j)) ∧ (∀ j k, j < k → k < n → qr j ≠ qr k) ∧ (∀ r, r < 720 → v r = -6 ∨ ∃ j, j < n ∧ qr j = r) ∧ (∀ j k, j ≤ k → k < n → d j ≤ d k) ∧ (∀ j, j < n → i < n → d j ≤ d i + 1) ∧ (∀ j, j < i → ∀ r, G.E (qr j) r → v r ≠ -6) ∧ (∀ j, j < n → ∀ m r, m < d j → G.At r m → v r ≠ -6) ∧ (v G.g ≠ -6) from h).2.2.1
theorem Gr.Qu.inj {G : Gr} {i n : Nat} {v : Nat → Int32} {qr d : Nat → Nat} (h : G.Qu i n v qr d) : ∀ j k, j < k → k < n → qr j ≠ qr k := (show (1 ≤ n) ∧ (i ≤ n) ∧ (∀ j, j < n → G.At (qr j) (d j) ∧ v (qr j) = nI (d j)) ∧ (∀ j k, j < k → k < n → qr j ≠ qr k) ∧ (∀ r, r < 720 → v r = -6 ∨ ∃ j, j < n ∧ qr j = r) ∧ (∀ j k, j ≤ k → k < n → d j ≤ d k) ∧ (∀ j, j < n → i < n → d j ≤ d i + 1) ∧ (∀ j, j < i → ∀ r, G.E (qr j) r → v r ≠ -6) ∧ (∀ j, j < n → ∀ m r, m < d j → G.At r m → v r ≠ -6) ∧ (v G.g ≠ -6) from h).2.2.2.1
theorem Gr.Qu.only {G : Gr} {i n : Nat} {v : Nat → Int32} {qr d : Nat → Nat} (h : G.Qu i n v qr d) : ∀ r, r < 720 → v r = -6 ∨ ∃ j, j < n ∧ qr j = r := (show (1 ≤ n) ∧ (i ≤ n) ∧ (∀ j, j < n → G.At (qr j) (d j) ∧ v (qr j) = nI (d j)) ∧ (∀ j k, j < k → k < n → qr j ≠ qr k) ∧ (∀ r, r < 720 → v r = -6 ∨ ∃ j, j < n ∧ qr j = r) ∧ (∀ j k, j ≤ k → k < n → d j ≤ d k) ∧ (∀ j, j < n → i < n → d j ≤ d i + 1) ∧ (∀ j, j < i → ∀ r, G.E (qr j) r → v r ≠ -6) ∧ (∀ j, j < n → ∀ m r, m < d j → G.At r m → v r ≠ -6) ∧ (v G.g ≠ -6) from h).2.2.2.2.1
theorem Gr.Qu.up {G : Gr} {i n : Nat} {v : Nat → Int32} {qr d : Nat → Nat} (h : G.Qu i n v qr d) : ∀ j k, j ≤ k → k < n → d j ≤ d k := (show (1 ≤ n) ∧ (i ≤ n) ∧ (∀ j, j < n → G.At (qr j) (d j) ∧ v (qr j) = nI (d j)) ∧ (∀ j k, j < k → k < n → qr j ≠ qr k) ∧ (∀ r, r < 720 → v r = -6 ∨ ∃ j, j < n ∧ qr j = r) ∧ (∀ j k, j ≤ k → k < n → d j ≤ d k) ∧ (∀ j, j < n → i < n → d j ≤ d i + 1) ∧ (∀ j, j < i → ∀ r, G.E (qr j) r → v r ≠ -6) ∧ (∀ j, j < n → ∀ m r, m < d j → G.At r m → v r ≠ -6) ∧ (v G.g ≠ -6) from h).2.2.2.2.2.1
theorem Gr.Qu.last {G : Gr} {i n : Nat} {v : Nat → Int32} {qr d : Nat → Nat} (h : G.Qu i n v qr d) : ∀ j, j < n → i < n → d j ≤ d i + 1 := (show (1 ≤ n) ∧ (i ≤ n) ∧ (∀ j, j < n → G.At (qr j) (d j) ∧ v (qr j) = nI (d j)) ∧ (∀ j k, j < k → k < n → qr j ≠ qr k) ∧ (∀ r, r < 720 → v r = -6 ∨ ∃ j, j < n ∧ qr j = r) ∧ (∀ j k, j ≤ k → k < n → d j ≤ d k) ∧ (∀ j, j < n → i < n → d j ≤ d i + 1) ∧ (∀ j, j < i → ∀ r, G.E (qr j) r → v r ≠ -6) ∧ (∀ j, j < n → ∀ m r, m < d j → G.At r m → v r ≠ -6) ∧ (v G.g ≠ -6) from h).2.2.2.2.2.2.1
theorem Gr.Qu.done {G : Gr} {i n : Nat} {v : Nat → Int32} {qr d : Nat → Nat} (h : G.Qu i n v qr d) : ∀ j, j < i → ∀ r, G.E (qr j) r → v r ≠ -6 := (show (1 ≤ n) ∧ (i ≤ n) ∧ (∀ j, j < n → G.At (qr j) (d j) ∧ v (qr j) = nI (d j)) ∧ (∀ j k, j < k → k < n → qr j ≠ qr k) ∧ (∀ r, r < 720 → v r = -6 ∨ ∃ j, j < n ∧ qr j = r) ∧ (∀ j k, j ≤ k → k < n → d j ≤ d k) ∧ (∀ j, j < n → i < n → d j ≤ d i + 1) ∧ (∀ j, j < i → ∀ r, G.E (qr j) r → v r ≠ -6) ∧ (∀ j, j < n → ∀ m r, m < d j → G.At r m → v r ≠ -6) ∧ (v G.g ≠ -6) from h).2.2.2.2.2.2.2.1
theorem Gr.Qu.near {G : Gr} {i n : Nat} {v : Nat → Int32} {qr d : Nat → Nat} (h : G.Qu i n v qr d) : ∀ j, j < n → ∀ m r, m < d j → G.At r m → v r ≠ -6 := (show (1 ≤ n) ∧ (i ≤ n) ∧ (∀ j, j < n → G.At (qr j) (d j) ∧ v (qr j) = nI (d j)) ∧ (∀ j k, j < k → k < n → qr j ≠ qr k) ∧ (∀ r, r < 720 → v r = -6 ∨ ∃ j, j < n ∧ qr j = r) ∧ (∀ j k, j ≤ k → k < n → d j ≤ d k) ∧ (∀ j, j < n → i < n → d j ≤ d i + 1) ∧ (∀ j, j < i → ∀ r, G.E (qr j) r → v r ≠ -6) ∧ (∀ j, j < n → ∀ m r, m < d j → G.At r m → v r ≠ -6) ∧ (v G.g ≠ -6) from h).2.2.2.2.2.2.2.2.1
theorem Gr.Qu.z {G : Gr} {i n : Nat} {v : Nat → Int32} {qr d : Nat → Nat} (h : G.Qu i n v qr d) : v G.g ≠ -6 := (show (1 ≤ n) ∧ (i ≤ n) ∧ (∀ j, j < n → G.At (qr j) (d j) ∧ v (qr j) = nI (d j)) ∧ (∀ j k, j < k → k < n → qr j ≠ qr k) ∧ (∀ r, r < 720 → v r = -6 ∨ ∃ j, j < n ∧ qr j = r) ∧ (∀ j k, j ≤ k → k < n → d j ≤ d k) ∧ (∀ j, j < n → i < n → d j ≤ d i + 1) ∧ (∀ j, j < i → ∀ r, G.E (qr j) r → v r ≠ -6) ∧ (∀ j, j < n → ∀ m r, m < d j → G.At r m → v r ≠ -6) ∧ (v G.g ≠ -6) from h).2.2.2.2.2.2.2.2.2
theorem Gr.Qu.n720 {G : Gr} {i n : Nat} {v : Nat → Int32} {qr d : Nat → Nat} (h : G.Qu i n v qr d) : n ≤ 720 := fb_holes 720 n qr (fun j hj => (h.at_ j hj).1.lt) h.inj
theorem Gr.Qu.val {G : Gr} {i n : Nat} {v : Nat → Int32} {qr d : Nat → Nat} (h : G.Qu i n v qr d) {r : Nat} (hr : r < 720) : v r = -6 ∨ ∃ t, t < 720 ∧ G.At r t ∧ v r = nI t := by
  rcases h.only r hr with a | ⟨j, hj, rfl⟩
  · exact Or.inl a
  · exact Or.inr ⟨d j, (h.at_ j hj).1.small, h.at_ j hj⟩
/-- all as near as the head are known -/
theorem Gr.Qu.nearer {G : Gr} {i n : Nat} {v : Nat → Int32} {qr d : Nat → Nat} (h : G.Qu i n v qr d) (hi : i < n) {m r : Nat} (hm : m ≤ d i) (hr : G.At r m) : v r ≠ -6 := by
  cases m with
  | zero => rw [hr.zero]; exact h.z
  | succ m =>
    obtain ⟨q, hq, he⟩ := hr.pred
    have hv := h.near i hi m q (by omega) hq
    rcases h.only q hq.lt with a | ⟨j, hj, rfl⟩
    · exact absurd a hv
    · have hd : d j = m := (h.at_ j hj).1.uniq hq
      have hji : j < i := by
        by_cases y : j < i
        · exact y
        · have := h.up i j (by omega) hj; omega
      exact h.done j hji r he
/-- a new one at the end -/
theorem Gr.Qu.push {G : Gr} {i n : Nat} {v : Nat → Int32} {qr d : Nat → Nat} (h : G.Qu i n v qr d) (hi : i < n) {r : Nat} (he : G.E (qr i) r) (hv : v r = -6) : n < 720 ∧ G.Qu i (n + 1) (upd v r (nI (d i + 1))) (fun j => if j = n then r else qr j) (fun j => if j = n then d i + 1 else d j) := by
  have hr := (G.hE _ _ he).2
  have hA : G.At r (d i + 1) := by
    refine ⟨Or.inr ⟨qr i, (h.at_ i hi).1.1, he⟩, fun t ht y => ?_⟩
    obtain ⟨u, h1, h2⟩ := G.lv_At y
    exact h.nearer hi (show u ≤ d i by omega) h2 hv
  have hne : ∀ j, j < n → qr j ≠ r := fun j hj z => by
    have := (h.at_ j hj).2
    rw [z, hv] at this
    exact nI_ne_m6 (k := d j) (by have := (h.at_ j hj).1.small; omega) this.symm
  have hup : ∀ y, v y ≠ -6 → upd v r (nI (d i + 1)) y ≠ -6 := fun y hy => by
    by_cases z : y = r
    · rw [z, upd_at]; exact nI_ne_m6 (by have := hA.small; omega)
    · rw [upd_ne z]; exact hy
  have hQ : G.Qu i (n + 1) (upd v r (nI (d i + 1))) (fun j => if j = n then r else qr j) (fun j => if j = n then d i + 1 else d j) := by
    unfold Gr.Qu
    refine ⟨by omega, by omega, ?_, ?_, ?_, ?_, ?_, ?_, ?_, hup _ h.z⟩
    · intro j hj
      by_cases z : j = n
      · dsimp only; rw [if_pos z, if_pos z, upd_at]; exact ⟨hA, rfl⟩
      · dsimp only; rw [if_neg z, if_neg z, upd_ne (hne j (by omega))]; exact h.at_ j (by omega)
    · intro j k hjk hk
      dsimp only
      rw [if_neg (show ¬ j = n by omega)]
      by_cases z : k = n
      · rw [if_pos z]; exact hne j (by omega)
      · rw [if_neg z]; exact h.inj j k hjk (by omega)
    · intro y hy
      by_cases z : y = r
      · exact Or.inr ⟨n, by omega, by dsimp only; rw [if_pos rfl, z]⟩
      · rw [upd_ne z]
        rcases h.only y hy with a | ⟨j, hj, b⟩
        · exact Or.inl a
        · exact Or.inr ⟨j, by omega, by dsimp only; rw [if_neg (by omega)]; exact b⟩
    · intro j k hjk hk
      dsimp only
      by_cases z : k = n
      · rw [if_pos z]
        by_cases y : j = n
        · rw [if_pos y]; exact Nat.le_refl _
        · rw [if_neg y]; exact h.last j (by omega) hi
      · rw [if_neg z, if_neg (by omega)]; exact h.up j k hjk (by omega)
    · intro j hj _
      dsimp only
      rw [if_neg (show ¬ i = n by omega)]
      by_cases y : j = n
      · rw [if_pos y]; exact Nat.le_refl _
      · rw [if_neg y]; exact h.last j (by omega) hi
    · intro j hj y hy
      dsimp only at hy
      rw [if_neg (show ¬ j = n by omega)] at hy
      exact hup y (h.done j hj y hy)
    · intro j hj m y hm hy
      dsimp only at hm
      by_cases z : j = n
      · rw [if_pos z] at hm
        exact hup y (h.nearer hi (show m ≤ d i by omega) hy)
      · rw [if_neg z] at hm
        exact hup y (h.near j (by omega) m y hm hy)
  refine ⟨?_, hQ⟩
  have := hQ.n720
  omega
/-- the head is done -/
theorem Gr.Qu.next {G : Gr} {i n : Nat} {v : Nat → Int32} {qr d : Nat → Nat} (h : G.Qu i n v qr d) (hi : i < n) (hd : ∀ r, G.E (qr i) r → v r ≠ -6) : G.Qu (i + 1) n v qr d := by
  unfold Gr.Qu
  refine ⟨h.h1, by omega, h.at_, h.inj, h.only, h.up, ?_, ?_, h.near, h.z⟩
  · intro j hj hi1
    have a := h.last j hj hi
    have b := h.up i (i + 1) (by omega) hi1
    omega
  · intro j hj r he
    by_cases z : j = i
    · subst z; exact hd r he
    · exact h.done j (by omega) r he
theorem Gr.Qu.first (G : Gr) {v : Nat → Int32} (h0 : v G.g = 0) (hv : ∀ r, r < 720 → r ≠ G.g → v r = -6) : G.Qu 0 1 v (fun _ => G.g) (fun _ => 0) := by
  unfold Gr.Qu
  refine ⟨by omega, by omega, ?_, ?_, ?_, ?_, ?_, ?_, ?_, ?_⟩
  · intro j _; exact ⟨G.at0, h0⟩
  · intro j k h1 h2; omega
  · intro r hr
    by_cases z : r = G.g
    · exact Or.inr ⟨0, by omega, z.symm⟩
    · exact Or.inl (hv r hr z)
  · intro _ _ _ _; exact Nat.le_refl _
  · intro _ _ _; exact Nat.zero_le _
  · intro j hj; omega
  · intro _ _ m r hm; exact absurd hm (Nat.not_lt_zero _)
  · rw [h0]; decide
/-- what the class has measured, when it stops -/
def Gr.Half (G : Gr) (from_ : Nat) (v : Nat → Int32) : Prop := (∀ r, r < 720 → v r = -6 ∨ ∃ t, t < 720 ∧ G.At r t ∧ v r = nI t) ∧ ((v from_ = -6 ∧ ∀ t, ¬ G.lv t from_) ∨ ∃ t, t < 720 ∧ G.At from_ t ∧ v from_ = nI t ∧ ∀ m r, m < t → G.At r m → v r ≠ -6)
theorem Gr.Qu.stop {G : Gr} {i n : Nat} {v : Nat → Int32} {qr d : Nat → Nat} (h : G.Qu i n v qr d) {x : Nat} (hx : x < 720) (hs : i = n ∨ v x ≠ -6) : G.Half x v := by
  refine ⟨fun r hr => h.val hr, ?_⟩
  by_cases y : v x = -6
  · have hn : i = n := by
      rcases hs with a | a
      · exact a
      · exact absurd y a
    refine Or.inl ⟨y, fun t => ?_⟩
    have key : ∀ t r, G.lv t r → v r ≠ -6 := by
      intro t
      induction t with
      | zero => intro r hr; rw [show r = G.g from hr]; exact h.z
      | succ t ih =>
        intro r hr
        rcases hr with a | ⟨q, a, b⟩
        · exact ih r a
        · rcases h.only q (G.hE q r b).1 with c | ⟨j, hj, rfl⟩
          · exact absurd c (ih q a)
          · exact h.done j (by omega) r b
    exact fun z => key t x z y
  · rcases h.only x hx with a | ⟨j, hj, rfl⟩
    · exact absurd a y
    · exact Or.inr ⟨d j, (h.at_ j hj).1.small, (h.at_ j hj).1, (h.at_ j hj).2, fun m r hm hr => h.near j hj m r hm hr⟩
/-- class and reference say the same of where one stands, and of a step nearer -/
theorem Gr.same {G : Gr} {x : Nat} {v w : Nat → Int32} (hx : x < 720) (hv : G.Half x v) (hw : G.Fin w) : v x = w x ∧ (v x = -6 ∨ ∃ t, t < 720 ∧ v x = nI t) ∧ ∀ t, v x = nI t → 1 ≤ t → t < 720 → ∀ r, r < 720 → (v r = nI (t - 1) ↔ w r = nI (t - 1)) := by
  have hAv : ∀ r t, r < 720 → t < 720 → v r = nI t → G.At r t := by
    intro r t hr ht z
    rcases hv.1 r hr with a | ⟨u, a, b, c⟩
    · rw [z] at a; exact absurd a (nI_ne_m6 (by omega))
    · rw [z] at c
      rw [(nI_eq (by omega) (by omega)).mp c]; exact b
  have hAw : ∀ r t, r < 720 → t < 720 → (w r = nI t ↔ G.At r t) := by
    intro r t hr ht
    constructor
    · intro z
      rcases hw r hr with ⟨u, a, b, c⟩ | ⟨a, b⟩
      · rw [z] at c
        rw [(nI_eq (by omega) (by omega)).mp c]; exact b
      · rw [z] at b; exact absurd b (nI_ne_m6 (by omega))
    · intro z
      rcases hw r hr with ⟨u, a, b, c⟩ | ⟨a, b⟩
      · rw [c, b.uniq z]
      · exact absurd z.1 (a t)
  rcases hv.2 with ⟨a, b⟩ | ⟨t, a, b, c, e⟩
  · refine ⟨?_, Or.inl a, fun t z h1 h2 => ?_⟩
    · rcases hw x hx with ⟨u, a', b', c'⟩ | ⟨a', b'⟩
      · exact absurd b'.1 (b u)
      · rw [a, b']
    · rw [a] at z; exact absurd z.symm (nI_ne_m6 (by omega))
  · refine ⟨by rw [c, (hAw x t hx a).mpr b], Or.inr ⟨t, a, c⟩, fun u z h1 h2 r hr => ?_⟩
    rw [c] at z
    have hut := (nI_eq (by omega) (by omega)).mp z
    subst hut
    rw [hAw r (t - 1) hr (by omega)]
    constructor
    · exact hAv r (t - 1) hr (by omega)
    · intro y
      rcases hv.1 r hr with a' | ⟨u, a', b', c'⟩
      · exact absurd a' (e (t - 1) r (by omega) y)
      · rw [c', b'.uniq y]
