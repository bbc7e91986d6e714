/-! OUR OWN ROWS: what every contract of ours is said in. kk_N: the words of private members of nest mates; kk_E: the ambient of a method; kk_PS, kk_PR, kk_PW: starts (no cell, cells read, cells written); the mirror of a method is a function into Option: none where the machine would throw or the fuel is out -/
def kk_nest : List (String × Nat × MethodName × String) := [(RX9, 9, yX3_init, RX9), (RX9, 18, yX7_init, RX9), (RX9, 25, yX8_init, RX9), (RX8, 11, yX7_init, RX9), (RX8, 20, yX0_init, RX9), (RX9, 32, yX5_init, RX9), (RX9, 39, yX4_init, RX9), (RX9, 46, yX6_init, RX9), (RX9, 57, yX1_init, RX9), (RX1, 9, yX7_init, RX9), (RX1, 18, yX5_init, RX9), (RX2, 12, yX9_isWithin, RX9), (RX7, 34, yX9_isWatcher, RX9), (RX3, 31, yX9_isWithin, RX9), (RX4, 54, yX9_isWithin, RX9), (RX5, 21, yX9_isWithin, RX9), (RX6, 30, yX9_isWithin, RX9)]
def kk_N (U : State) : Prop := ∀ q ∈ kk_nest, va_Nw (.methodLinkNest q.1 q.2.1 q.2.2.1 q.2.2.2) U
theorem kk_N.warm {s U : State} (hW : s.WarmedH U.vm) (h : kk_N s) : kk_N U := fun q hq => va_Nw.warmM hW (h q hq)
theorem kk_N.same {u U : State} (e : u.vm = U.vm) (h : kk_N u) : kk_N U := fun q hq => va_Nw.same rfl e (h q hq)
abbrev kk_TY (cy : Nat → ClassId) : List (ClassId × FieldType) := [(cy 0, .int), (cy 1, .long), (cy 2, .boolean), (cy 3, .object "PeaCups$Image")]
def kk_E (D : va_G) (cy : Nat → ClassId) (U : State) : Prop := va_K D vwCl (kk_TY cy) U ∧ kk_N U
theorem kk_E.warm {D : va_G} {cy : Nat → ClassId} {s U : State} (hW : s.WarmedH U.vm) (h : kk_E D cy s) : kk_E D cy U := ⟨va_K.moved hW.alike h.1, h.2.warm hW⟩
theorem kk_E.same {D : va_G} {cy : Nat → ClassId} {u U : State} (e : u.vm = U.vm) (ha : u.vm.Alike U.vm) (h : kk_E D cy u) : kk_E D cy U := ⟨va_K.moved ha h.1, h.2.same e⟩
def kk_ONE : Nat → Int32 := fun k => ([0, 0, 0, 0, 0, 1, 1, 1, 1, 2, 2, 2, 3, 3, 4] : List Int32).getD k 0
def kk_OTHER : Nat → Int32 := fun k => ([1, 2, 3, 4, 5, 2, 3, 4, 5, 3, 4, 5, 4, 5, 5] : List Int32).getD k 0
/-- the static arrays -/
def kk_X (st : Nat → Nat) (A : Nat → Prop) (U : State) (H : Heap) : Prop :=
  (va_Z "PeaCups$Paths" "ONE" "[I" (.ref (st 0)) A U H ∧ va_T .int (st 0) 15 (fun k => .int (kk_ONE k)) A U H) ∧
  (va_Z "PeaCups$Paths" "OTHER" "[I" (.ref (st 1)) A U H ∧ va_T .int (st 1) 15 (fun k => .int (kk_OTHER k)) A U H)
theorem kk_X.moved {st : Nat → Nat} {A : Nat → Prop} {u U : State} {H : Heap} (ha : u.vm.Alike U.vm) (h : kk_X st A u H) : kk_X st A U H :=
  ⟨⟨h.1.1.moved ha, h.1.2.moved ha⟩, ⟨h.2.1.moved ha, h.2.2.moved ha⟩⟩
theorem kk_X.kept {st : Nat → Nat} {A : Nat → Prop} {U : State} {H H1 : Heap} (hq : ∀ a : Nat, a < H.size → ¬ A a → H1[a]? = H[a]?) (h : kk_X st A U H) : kk_X st A U H1 :=
  ⟨⟨h.1.1.kept hq, h.1.2.kept hq⟩, ⟨h.2.1.kept hq, h.2.2.kept hq⟩⟩
theorem kk_X.narrow {st : Nat → Nat} {A B : Nat → Prop} {U : State} {H : Heap} (hAB : ∀ q, B q → A q) (h : kk_X st A U H) : kk_X st B U H :=
  ⟨⟨h.1.1.narrow hAB, h.1.2.narrow hAB⟩, ⟨h.2.1.narrow hAB, h.2.2.narrow hAB⟩⟩
theorem kk_X.to {st : Nat → Nat} {A B : Nat → Prop} {s U : State} {H : Heap} {locs : List Loc} (h : kk_X st A s s.heap) (hS : va_S A s.heap H locs) (hAB : ∀ q, B q → A q) (hU : U.heap = H) (hW : s.WarmedH U.vm) : kk_X st B U U.heap := by
  rw [hU]
  exact ((h.kept hS.2.1).narrow hAB).moved hW.alike
/-- starts -/
def kk_PS (av : List Value) : Array Value → State → Prop := va_Pc av kk_N
def kk_PR (D : va_G) (cy : Nat → ClassId) (w : va_W) (av : List Value) : Array Value → State → Prop := va_Pc av (fun U => va_P D vwCl w U.heap ∧ kk_E D cy U)
def kk_PW (D : va_G) (cy : Nat → ClassId) (w : va_W) (sz : Nat) (av : List Value) : Array Value → State → Prop := va_Pc av (fun U => U.heap.size = sz ∧ va_P D vwCl w U.heap ∧ kk_E D cy U ∧ va_D (fun _ => True) w)
def kk_PSX (st : Nat → Nat) (av : List Value) : Array Value → State → Prop := va_Pc av (fun U => kk_N U ∧ kk_X st (fun _ => False) U U.heap)
def kk_PRX (D : va_G) (cy st : Nat → Nat) (w : va_W) (av : List Value) : Array Value → State → Prop := va_Pc av (fun U => va_P D vwCl w U.heap ∧ kk_E D cy U ∧ kk_X st (fun _ => False) U U.heap)
def kk_PWX (D : va_G) (cy st : Nat → Nat) (w : va_W) (sz : Nat) (av : List Value) : Array Value → State → Prop := va_Pc av (fun U => U.heap.size = sz ∧ va_P D vwCl w U.heap ∧ kk_E D cy U ∧ va_D (fun _ => True) w ∧ kk_X st (va_A w sz) U U.heap)
theorem kk_PS.blind {av : List Value} : FrameBlind (kk_PS av) := fun a U g mk q => ⟨q.1, kk_N.same (U := U.calling g mk a) rfl q.2⟩
theorem kk_PR.blind {D : va_G} {cy : Nat → ClassId} {w : va_W} {av : List Value} : FrameBlind (kk_PR D cy w av) := fun a U g mk q => ⟨q.1, q.2.1, kk_E.same (U := U.calling g mk a) rfl (Vm.Alike.refl U.vm) q.2.2⟩
theorem kk_PW.blind {D : va_G} {cy : Nat → ClassId} {w : va_W} {sz : Nat} {av : List Value} : FrameBlind (kk_PW D cy w sz av) := fun a U g mk q => ⟨q.1, q.2.1, q.2.2.1, kk_E.same (U := U.calling g mk a) rfl (Vm.Alike.refl U.vm) q.2.2.2.1, q.2.2.2.2⟩
theorem kk_PSX.blind {st : Nat → Nat} {av : List Value} : FrameBlind (kk_PSX st av) := fun a U g mk q => ⟨q.1, kk_N.same (U := U.calling g mk a) rfl q.2.1, kk_X.moved (U := U.calling g mk a) (Vm.Alike.refl U.vm) q.2.2⟩
theorem kk_PRX.blind {D : va_G} {cy st : Nat → Nat} {w : va_W} {av : List Value} : FrameBlind (kk_PRX D cy st w av) := fun a U g mk q => ⟨q.1, q.2.1, kk_E.same (U := U.calling g mk a) rfl (Vm.Alike.refl U.vm) q.2.2.1, kk_X.moved (U := U.calling g mk a) (Vm.Alike.refl U.vm) q.2.2.2⟩
theorem kk_PWX.blind {D : va_G} {cy st : Nat → Nat} {w : va_W} {sz : Nat} {av : List Value} : FrameBlind (kk_PWX D cy st w sz av) := fun a U g mk q => ⟨q.1, q.2.1, q.2.2.1, kk_E.same (U := U.calling g mk a) rfl (Vm.Alike.refl U.vm) q.2.2.2.1, q.2.2.2.2.1, kk_X.moved (U := U.calling g mk a) (Vm.Alike.refl U.vm) q.2.2.2.2.2⟩
/-- ends of methods that write -/
def kk_Qi (D : va_G) (w1 : va_W) (r : Int32) (A : Nat → Prop) : Array Value → State → Outcome → State → Prop := va_Qi (fun r' (_ : Unit) => r' = r) (fun _ t => va_P D vwCl w1 t.heap ∧ va_D A w1) A
def kk_Qv (D : va_G) (w1 : va_W) (A : Nat → Prop) : Array Value → State → Outcome → State → Prop := va_Qv (fun (_ : Unit) => True) (fun _ t => va_P D vwCl w1 t.heap ∧ va_D A w1) A
def kk_pick (w : va_W) (is : List Nat) : va_W := is.filterMap (fun i => w[i]?)
theorem kk_fm {α : Type} {f : Nat → Option α} {is : List Nat} {w : List α} (h : is.map f = w.map some) : is.filterMap f = w := by
  have h2 := congrArg (List.filterMap id) h
  simpa [List.filterMap_map] using h2
/-- the mirror's words -/
def kx {α : Type} (n : Nat) (i : Int32) (k : Option α) : Option α := if i < 0 ∨ n ≤ i.toNatClampNeg then none else k
def kz {α : Type} (y : Int32) (k : Option α) : Option α := if y = 0 then none else k
def kzl {α : Type} (y : Int64) (k : Option α) : Option α := if y = 0 then none else k
def kb {α : Type} (r : Int32) (k : Option α) : Option α := if r = 0 ∨ r = 1 then k else none
theorem kk_x {α : Type} {n : Nat} {i : Int32} {k : Option α} {u : α} (h : kx n i k = some u) : vp_in i n ∧ k = some u := by
  unfold kx at h
  split at h
  · cases h
  · exact ⟨by assumption, h⟩
theorem kk_z {α : Type} {y : Int32} {k : Option α} {u : α} (h : kz y k = some u) : (¬ y = 0) ∧ k = some u := by
  unfold kz at h
  split at h
  · cases h
  · exact ⟨by assumption, h⟩
theorem kk_zl {α : Type} {y : Int64} {k : Option α} {u : α} (h : kzl y k = some u) : (¬ y = 0) ∧ k = some u := by
  unfold kzl at h
  split at h
  · cases h
  · exact ⟨by assumption, h⟩
theorem kk_bz {α : Type} {r : Int32} {k : Option α} {u : α} (h : kb r k = some u) : narrow .boolean (.int r) = .int r ∧ k = some u := by
  unfold kb at h
  split at h
  · rename_i hr
    rcases hr with rfl | rfl
    · exact ⟨rfl, h⟩
    · exact ⟨rfl, h⟩
  · cases h
theorem kk_t {α : Type} {c : Prop} [Decidable c] {a b : Option α} {u : α} (hc : c) (h : (if c then a else b) = some u) : a = some u := by rwa [if_pos hc] at h
theorem kk_f {α : Type} {c : Prop} [Decidable c] {a b : Option α} {u : α} (hc : ¬ c) (h : (if c then a else b) = some u) : b = some u := by rwa [if_neg hc] at h
theorem kk_b {α β : Type} {x : Option α} {f : α → Option β} {u : β} (h : x.bind f = some u) : ∃ a, x = some a ∧ f a = some u := Option.bind_eq_some_iff.mp h
theorem kk_no {α : Type} {u : α} {P : Prop} (h : (none : Option α) = some u) : P := nomatch h
section KKI
variable {R A1 A2 A3 A4 A5 A6 A7 A8 A9 A10 A11 A12 A13 A14 A15 A16 A17 A18 : Type}
noncomputable def it1 (F : (A1 → Option R) → A1 → Option R) (n : Nat) : A1 → Option R := @Nat.rec (fun _ => A1 → Option R) (fun _ => none) (fun _ ih => F ih) n
noncomputable def it2 (F : (A1 → A2 → Option R) → A1 → A2 → Option R) (n : Nat) : A1 → A2 → Option R := @Nat.rec (fun _ => A1 → A2 → Option R) (fun _ _ => none) (fun _ ih => F ih) n
noncomputable def it3 (F : (A1 → A2 → A3 → Option R) → A1 → A2 → A3 → Option R) (n : Nat) : A1 → A2 → A3 → Option R := @Nat.rec (fun _ => A1 → A2 → A3 → Option R) (fun _ _ _ => none) (fun _ ih => F ih) n
noncomputable def it4 (F : (A1 → A2 → A3 → A4 → Option R) → A1 → A2 → A3 → A4 → Option R) (n : Nat) : A1 → A2 → A3 → A4 → Option R := @Nat.rec (fun _ => A1 → A2 → A3 → A4 → Option R) (fun _ _ _ _ => none) (fun _ ih => F ih) n
noncomputable def it5 (F : (A1 → A2 → A3 → A4 → A5 → Option R) → A1 → A2 → A3 → A4 → A5 → Option R) (n : Nat) : A1 → A2 → A3 → A4 → A5 → Option R := @Nat.rec (fun _ => A1 → A2 → A3 → A4 → A5 → Option R) (fun _ _ _ _ _ => none) (fun _ ih => F ih) n
noncomputable def it6 (F : (A1 → A2 → A3 → A4 → A5 → A6 → Option R) → A1 → A2 → A3 → A4 → A5 → A6 → Option R) (n : Nat) : A1 → A2 → A3 → A4 → A5 → A6 → Option R := @Nat.rec (fun _ => A1 → A2 → A3 → A4 → A5 → A6 → Option R) (fun _ _ _ _ _ _ => none) (fun _ ih => F ih) n
noncomputable def it7 (F : (A1 → A2 → A3 → A4 → A5 → A6 → A7 → Option R) → A1 → A2 → A3 → A4 → A5 → A6 → A7 → Option R) (n : Nat) : A1 → A2 → A3 → A4 → A5 → A6 → A7 → Option R := @Nat.rec (fun _ => A1 → A2 → A3 → A4 → A5 → A6 → A7 → Option R) (fun _ _ _ _ _ _ _ => none) (fun _ ih => F ih) n
noncomputable def it8 (F : (A1 → A2 → A3 → A4 → A5 → A6 → A7 → A8 → Option R) → A1 → A2 → A3 → A4 → A5 → A6 → A7 → A8 → Option R) (n : Nat) : A1 → A2 → A3 → A4 → A5 → A6 → A7 → A8 → Option R := @Nat.rec (fun _ => A1 → A2 → A3 → A4 → A5 → A6 → A7 → A8 → Option R) (fun _ _ _ _ _ _ _ _ => none) (fun _ ih => F ih) n
noncomputable def it9 (F : (A1 → A2 → A3 → A4 → A5 → A6 → A7 → A8 → A9 → Option R) → A1 → A2 → A3 → A4 → A5 → A6 → A7 → A8 → A9 → Option R) (n : Nat) : A1 → A2 → A3 → A4 → A5 → A6 → A7 → A8 → A9 → Option R := @Nat.rec (fun _ => A1 → A2 → A3 → A4 → A5 → A6 → A7 → A8 → A9 → Option R) (fun _ _ _ _ _ _ _ _ _ => none) (fun _ ih => F ih) n
noncomputable def it11 (F : (A1 → A2 → A3 → A4 → A5 → A6 → A7 → A8 → A9 → A10 → A11 → Option R) → A1 → A2 → A3 → A4 → A5 → A6 → A7 → A8 → A9 → A10 → A11 → Option R) (n : Nat) : A1 → A2 → A3 → A4 → A5 → A6 → A7 → A8 → A9 → A10 → A11 → Option R := @Nat.rec (fun _ => A1 → A2 → A3 → A4 → A5 → A6 → A7 → A8 → A9 → A10 → A11 → Option R) (fun _ _ _ _ _ _ _ _ _ _ _ => none) (fun _ ih => F ih) n
noncomputable def it12 (F : (A1 → A2 → A3 → A4 → A5 → A6 → A7 → A8 → A9 → A10 → A11 → A12 → Option R) → A1 → A2 → A3 → A4 → A5 → A6 → A7 → A8 → A9 → A10 → A11 → A12 → Option R) (n : Nat) : A1 → A2 → A3 → A4 → A5 → A6 → A7 → A8 → A9 → A10 → A11 → A12 → Option R := @Nat.rec (fun _ => A1 → A2 → A3 → A4 → A5 → A6 → A7 → A8 → A9 → A10 → A11 → A12 → Option R) (fun _ _ _ _ _ _ _ _ _ _ _ _ => none) (fun _ ih => F ih) n
noncomputable def it18 (F : (A1 → A2 → A3 → A4 → A5 → A6 → A7 → A8 → A9 → A10 → A11 → A12 → A13 → A14 → A15 → A16 → A17 → A18 → Option R) → A1 → A2 → A3 → A4 → A5 → A6 → A7 → A8 → A9 → A10 → A11 → A12 → A13 → A14 → A15 → A16 → A17 → A18 → Option R) (n : Nat) : A1 → A2 → A3 → A4 → A5 → A6 → A7 → A8 → A9 → A10 → A11 → A12 → A13 → A14 → A15 → A16 → A17 → A18 → Option R := @Nat.rec (fun _ => A1 → A2 → A3 → A4 → A5 → A6 → A7 → A8 → A9 → A10 → A11 → A12 → A13 → A14 → A15 → A16 → A17 → A18 → Option R) (fun _ _ _ _ _ _ _ _ _ _ _ _ _ _ _ _ _ _ => none) (fun _ ih => F ih) n
end KKI
/-- what the array of images holds -/
def kk_im (x y : Nat) : Nat → Option Nat := fun k => if k = 0 then some x else if k = 1 then some y else none
section KKW
variable {p : Program} {l : Launch} {e : Env} {R : Room} {s : State} {m : MethodId} {args : Array Value} {below : List Frame} {meth : Method} {c : Code} {H : Heap} {locs : List Loc} {cells slots : Nat} {Q : State → Prop}
variable {pc : Nat} {ls : Array Slot} {rest st0 : List Value} {a : Array Value} {cc : ByteArray} {D : va_G} {cy st : Nat → Nat} {A : Nat → Prop}
/-- a method's walk from its entry -/
theorem kk_met {y : MethodName} {ws ws' : List Cond} {rm : Room} {av : List Value} {Bx : State → Prop} {Qc : Array Value → State → Outcome → State → Prop} {mc ms : Nat} {free : Addr → Prop} {maxL : Nat} {ret : Option FieldType}
    (hy : plainName y.cls = true) (hw : ws = Cond.code y cc maxL ret :: ws') (hlen : (lg_sl av).length ≤ maxL)
    (body : ∀ (p : Program) (e : Env) (s : State) (m : MethodId) (below : List Frame) (meth : Method) (c : Code), p.tables.exec = Jvm.exec → c.code = cc → meth.sig.returnType = ret → c.maxLocals = maxL → (∀ w ∈ ws, w.before av.toArray s = true) → s.vm.findClass y.cls = some m.cls → meth.locks = false → Bx s →
      ∀ (ls : Array Slot), lv_has ls maxL (lv_args 0 av) → ∀ Q : State → Prop, Q = MQ below Qc av.toArray s mc ms free → W p l e rm s m av.toArray below meth c s.heap [] 0 0 Q (F0 m 0 ls [])) : Met l y ws rm (va_Pc av Bx) Qc mc ms free := by
  refine Met.ofW (cc := cc) (maxL := maxL) (ret := ret) hy hw ?_
  intro p e s m args below meth c s₁ B hml hv
  obtain ⟨rfl, hB⟩ := hv
  have hl := lv_entry av (n := maxL) hlen
  rw [lg_entry_eq]
  exact body p e s m below meth c B.exec B.bytes B.returns hml (atoms_spec (ws := ws) B.pre) (findClass_of_methodNamed B.named) B.notSynchronized hB _ hl _ rfl
/-- calls that leave the heap as it is -/
theorem kk_si {v : Int32} (hr : va_Run p l e R s m args below meth c H locs cells slots 0 0 (F0 m pc ls st0) rest (vp_Si (fun r => r = v) a) (fun _ => False)) (kk : W p l e R s m args below meth c H locs cells slots Q (F0 m (pc + 3) ls (.int v :: rest))) : W p l e R s m args below meth c H locs cells slots Q (F0 m pc ls st0) := by
  intro T hT X
  obtain ⟨w, st₀, t, T', L, h0, X', hL, e1, e2, ⟨r, hv, hp, hh⟩, st⟩ := hr T hT X
  cases hv
  have hp : r = v := hp
  subst hp
  obtain ⟨t2, a1, b1⟩ := kk T' (by rw [e1, hh, h0]) (Stand.forget X' (fun q h => (hL q h).elim))
  exact ⟨t2, st t2 a1, b1⟩
theorem kk_sl {v : Int64} (hr : va_Run p l e R s m args below meth c H locs cells slots 0 0 (F0 m pc ls st0) rest (vp_Sl (fun r => r = v) a) (fun _ => False)) (kk : W p l e R s m args below meth c H locs cells slots Q (F0 m (pc + 3) ls (.long v :: rest))) : W p l e R s m args below meth c H locs cells slots Q (F0 m pc ls st0) := by
  intro T hT X
  obtain ⟨w, st₀, t, T', L, h0, X', hL, e1, e2, ⟨r, hv, hp, hh⟩, st⟩ := hr T hT X
  cases hv
  have hp : r = v := hp
  subst hp
  obtain ⟨t2, a1, b1⟩ := kk T' (by rw [e1, hh, h0]) (Stand.forget X' (fun q h => (hL q h).elim))
  exact ⟨t2, st t2 a1, b1⟩
theorem kk_preS {As : List Value} (h : kk_N s) : PreS s H (kk_PS As) As := ⟨kk_PS.blind, fun _ _ hW => ⟨rfl, h.warm hW⟩⟩
theorem kk_preR {w : va_W} {As : List Value} (hE : kk_E D cy s) (hP : va_P D vwCl w H) : PreS s H (kk_PR D cy w As) As := ⟨kk_PR.blind, fun _ hU hW => ⟨rfl, by rw [hU]; exact hP, hE.warm hW⟩⟩
theorem kk_preRV {w : va_W} {b q0 ci : Nat} {As fs : List Value} {q : vw_C} (hE : kk_E D cy s) (hP : va_P D vwCl w H) (hc : vwCl[ci]? = some q) (he : w[q0]? = some (b, .inr (ci, fs))) : PreV s H q.1 b (kk_PR D cy w (.ref b :: As)) As := ⟨kk_PR.blind, va_recv hE.1 hP hc he, fun _ hU hW => ⟨rfl, by rw [hU]; exact hP, hE.warm hW⟩⟩
theorem kk_preW {w : va_W} {As : List Value} (hE : kk_E D cy s) (hP : va_P D vwCl w H) (hD : va_D A w) : PreS s H (kk_PW D cy w H.size As) As := ⟨kk_PW.blind, fun _ hU hW => ⟨rfl, by rw [hU], by rw [hU]; exact hP, hE.warm hW, hD.weaken (fun _ _ _ _ => trivial)⟩⟩
theorem kk_preWV {w : va_W} {b q0 ci : Nat} {As fs : List Value} {q : vw_C} (hE : kk_E D cy s) (hP : va_P D vwCl w H) (hD : va_D A w) (hc : vwCl[ci]? = some q) (he : w[q0]? = some (b, .inr (ci, fs))) : PreV s H q.1 b (kk_PW D cy w H.size (.ref b :: As)) As := ⟨kk_PW.blind, va_recv hE.1 hP hc he, fun _ hU hW => ⟨rfl, by rw [hU], by rw [hU]; exact hP, hE.warm hW, hD.weaken (fun _ _ _ _ => trivial)⟩⟩
theorem kk_preSX {As : List Value} (h : kk_N s) (hX : kk_X st A s s.heap) (hS : va_S A s.heap H locs) : PreS s H (kk_PSX st As) As := ⟨kk_PSX.blind, fun _ hU hW => ⟨rfl, h.warm hW, hX.to hS (fun _ h => h.elim) hU hW⟩⟩
theorem kk_preRVX {w : va_W} {b q0 ci : Nat} {As fs : List Value} {q : vw_C} (hE : kk_E D cy s) (hX : kk_X st A s s.heap) (hS : va_S A s.heap H locs) (hP : va_P D vwCl w H) (hc : vwCl[ci]? = some q) (he : w[q0]? = some (b, .inr (ci, fs))) : PreV s H q.1 b (kk_PRX D cy st w (.ref b :: As)) As := ⟨kk_PRX.blind, va_recv hE.1 hP hc he, fun _ hU hW => ⟨rfl, by rw [hU]; exact hP, hE.warm hW, hX.to hS (fun _ h => h.elim) hU hW⟩⟩
theorem kk_preWVX {w wc : va_W} {b q0 ci : Nat} {As fs : List Value} {q : vw_C} (hE : kk_E D cy s) (hX : kk_X st A s s.heap) (hS : va_S A s.heap H locs) (hD : va_D A w) (hA : ∀ q, s.heap.size ≤ q → A q) (isC : List Nat) (hC : isC.map (fun i => w[i]?) = wc.map some) (hP : va_P D vwCl wc H) (hDc : va_D A wc) (hc : vwCl[ci]? = some q) (he : wc[q0]? = some (b, .inr (ci, fs))) : PreV s H q.1 b (kk_PWX D cy st wc H.size (.ref b :: As)) As := ⟨kk_PWX.blind, va_recv hE.1 hP hc he, fun U hU hW => ⟨rfl, by rw [hU], by rw [hU]; exact hP, hE.warm hW, hDc.weaken (fun _ _ _ _ => trivial), hX.to hS (fun q h => va_free hD hS hA isC hC q h) hU hW⟩⟩
/-- calls that write -/
theorem kk_wv {w wc w1 wn : va_W} (hr : va_Run p l e R s m args below meth c H locs cells slots 0 0 (F0 m pc ls st0) rest (kk_Qv D w1 (va_A wc H.size) a) (va_A wc H.size)) (hP : va_P D vwCl w H) (hD : va_D A w) (hS : va_S A s.heap H locs) (hA : ∀ q, s.heap.size ≤ q → A q) (isC isR pm : List Nat) (hC : isC.map (fun i => w[i]?) = wc.map some) (hR : isR.map (fun i => w[i]?) = (kk_pick w isR).map some) (hn : va_nd isR = true) (hdis : ∀ i ∈ isR, i ∉ isC) (hpn : va_nd pm = true) (hpm : pm.map (fun i => (kk_pick w isR ++ w1)[i]?) = wn.map some)
    (kk : ∀ (H1 : Heap) (locs1 : List Loc), va_P D vwCl wn H1 → va_D A wn → va_S A s.heap H1 locs1 → W p l e R s m args below meth c H1 locs1 cells slots Q (F0 m (pc + 3) ls rest)) : W p l e R s m args below meth c H locs cells slots Q (F0 m pc ls st0) := by
  have hF := va_free hD hS hA isC hC
  refine va_callv hr hS (fun q _ h => hF q h) hF (fun u t H1 locs1 ht _ _ hB _ hk hS1 => ?_)
  obtain ⟨hP1, hD1⟩ := hB
  rw [ht] at hP1
  obtain ⟨hP2, hD2⟩ := va_join hP hD isC isR hC hR hn hdis hk hF hP1 hD1
  exact kk H1 locs1 (hP2.sub pm (kk_fm hpm)) (hD2.sub pm hpn hpm) hS1
theorem kk_wi {w wc w1 wn : va_W} {v : Int32} (hr : va_Run p l e R s m args below meth c H locs cells slots 0 0 (F0 m pc ls st0) rest (kk_Qi D w1 v (va_A wc H.size) a) (va_A wc H.size)) (hP : va_P D vwCl w H) (hD : va_D A w) (hS : va_S A s.heap H locs) (hA : ∀ q, s.heap.size ≤ q → A q) (isC isR pm : List Nat) (hC : isC.map (fun i => w[i]?) = wc.map some) (hR : isR.map (fun i => w[i]?) = (kk_pick w isR).map some) (hn : va_nd isR = true) (hdis : ∀ i ∈ isR, i ∉ isC) (hpn : va_nd pm = true) (hpm : pm.map (fun i => (kk_pick w isR ++ w1)[i]?) = wn.map some)
    (kk : ∀ (H1 : Heap) (locs1 : List Loc), va_P D vwCl wn H1 → va_D A wn → va_S A s.heap H1 locs1 → W p l e R s m args below meth c H1 locs1 cells slots Q (F0 m (pc + 3) ls (.int v :: rest))) : W p l e R s m args below meth c H locs cells slots Q (F0 m pc ls st0) := by
  have hF := va_free hD hS hA isC hC
  refine va_calli hr hS (fun q _ h => hF q h) hF (fun r u t H1 locs1 ht _ hw hB _ hk hS1 => ?_)
  obtain ⟨hP1, hD1⟩ := hB
  have hw : r = v := hw
  subst hw
  rw [ht] at hP1
  obtain ⟨hP2, hD2⟩ := va_join hP hD isC isR hC hR hn hdis hk hF hP1 hD1
  exact kk H1 locs1 (hP2.sub pm (kk_fm hpm)) (hD2.sub pm hpn hpm) hS1
/-- returns -/
theorem kk_ri {v u : Int32} (hx : p.tables.exec = Jvm.exec) (hb : c.code = cc) (hr : meth.sig.returnType = some .int) (hlocks : meth.locks = false) (hQ : Q = MQ below (vp_Si (fun r => r = u)) args s 0 0 (fun _ => False)) (h : (some v : Option Int32) = some u) (hdg : decode cc pc = .ok (.ireturn, 1)) : W p l e R s m args below meth c s.heap [] 0 0 Q (F0 m pc ls [.int v]) := by
  subst hQ
  exact W.iret hx hb hr (fun t ht _ => ⟨v, rfl, Option.some.inj h, ht⟩) (fun _ h => by cases h) hdg hlocks
theorem kk_rz {v u : Int32} (hx : p.tables.exec = Jvm.exec) (hb : c.code = cc) (hr : meth.sig.returnType = some .boolean) (hlocks : meth.locks = false) (hQ : Q = MQ below (vp_Si (fun r => r = u)) args s 0 0 (fun _ => False)) (hn : narrow .boolean (.int v) = .int v) (h : (some v : Option Int32) = some u) (hdg : decode cc pc = .ok (.ireturn, 1)) : W p l e R s m args below meth c s.heap [] 0 0 Q (F0 m pc ls [.int v]) := by
  subst hQ
  exact W.zret hx hb hr hn (fun t ht _ => ⟨v, rfl, Option.some.inj h, ht⟩) (fun _ h => by cases h) hdg hlocks
theorem kk_rl {v u : Int64} (hx : p.tables.exec = Jvm.exec) (hb : c.code = cc) (hr : meth.sig.returnType = some .long) (hlocks : meth.locks = false) (hQ : Q = MQ below (vp_Sl (fun r => r = u)) args s 0 0 (fun _ => False)) (h : (some v : Option Int64) = some u) (hdg : decode cc pc = .ok (.lreturn, 1)) : W p l e R s m args below meth c s.heap [] 0 0 Q (F0 m pc ls [.long v]) := by
  subst hQ
  exact W.lret hx hb hr (fun t ht _ => ⟨v, rfl, Option.some.inj h, ht⟩) (fun _ h => by cases h) hdg hlocks
theorem kk_rwi {α : Type} {T u : α} {v : Int32} {wf : α → va_W} {rf : α → Int32} (hx : p.tables.exec = Jvm.exec) (hb : c.code = cc) (hr : meth.sig.returnType = some .int) (hlocks : meth.locks = false) (h : some T = some u) (hQ : Q = MQ below (kk_Qi D (wf u) (rf u) A) args s 0 0 A) (hv : v = rf T) (hP : va_P D vwCl (wf T) H) (hD : va_D A (wf T)) (hS : va_S A s.heap H locs) (hdg : decode cc pc = .ok (.ireturn, 1)) : W p l e R s m args below meth c H locs 0 0 Q (F0 m pc ls [.int v]) := by
  have e := Option.some.inj h
  subst e
  subst hv
  subst hQ
  exact W.iret hx hb hr (fun t ht _ => ⟨⟨rf T, (), rfl, rfl, by rw [ht]; exact hP, hD⟩, hS.F ht⟩) hS.2.2 hdg hlocks
theorem kk_rwz {α : Type} {T u : α} {v : Int32} {wf : α → va_W} {rf : α → Int32} (hx : p.tables.exec = Jvm.exec) (hb : c.code = cc) (hr : meth.sig.returnType = some .boolean) (hlocks : meth.locks = false) (h : some T = some u) (hQ : Q = MQ below (kk_Qi D (wf u) (rf u) A) args s 0 0 A) (hn : narrow .boolean (.int v) = .int v) (hv : v = rf T) (hP : va_P D vwCl (wf T) H) (hD : va_D A (wf T)) (hS : va_S A s.heap H locs) (hdg : decode cc pc = .ok (.ireturn, 1)) : W p l e R s m args below meth c H locs 0 0 Q (F0 m pc ls [.int v]) := by
  have e := Option.some.inj h
  subst e
  subst hv
  subst hQ
  exact W.zret hx hb hr hn (fun t ht _ => ⟨⟨rf T, (), rfl, rfl, by rw [ht]; exact hP, hD⟩, hS.F ht⟩) hS.2.2 hdg hlocks
theorem kk_rwv {α : Type} {T u : α} {wf : α → va_W} (hx : p.tables.exec = Jvm.exec) (hb : c.code = cc) (hr : meth.sig.returnType = none) (hlocks : meth.locks = false) (h : some T = some u) (hQ : Q = MQ below (kk_Qv D (wf u) A) args s 0 0 A) (hP : va_P D vwCl (wf T) H) (hD : va_D A (wf T)) (hS : va_S A s.heap H locs) (hdg : decode cc pc = .ok (.return_, 1)) : W p l e R s m args below meth c H locs 0 0 Q (F0 m pc ls []) := by
  have e := Option.some.inj h
  subst e
  subst hQ
  exact W.vret hx hb hr (fun t ht _ => ⟨⟨(), rfl, trivial, by rw [ht]; exact hP, hD⟩, hS.F ht⟩) hS.2.2 hdg hlocks
end KKW
