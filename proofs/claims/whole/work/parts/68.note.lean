theorem note_nI {x e : Nat} {wA wW : Int32} (hx : x < 16) (he : e < 2 ^ 31) (hw : wA = -6 ∨ ∃ k, k < 2 ^ 31 ∧ wA = nI k) : f_L_noteWrong (nI x) (nI e) wA wW = some (if x = 0 then (wA, wW) else if wA = -6 then (nI e, nI (low4 x)) else (wA, wW)) := by
  have e6 : ¬ nI e = -6 := nI_ne_m6 he
  rcases hw with rfl | ⟨k, hk, rfl⟩
  · by_cases h0 : x = 0
    · subst h0
      rw [if_pos rfl]
      unfold f_L_noteWrong
      refine it3_seq (fun i => nI i) (fun _ => -6) (fun _ => wW) 4 ?_ ?_ 1100 (by decide)
      · intro i hi r
        show bd_L_noteWrong_2 _ _ r (nI i) _ _ = r (nI (i + 1)) (-6) wW
        unfold bd_L_noteWrong_2
        have hz : ∀ i, i < 4 → ¬ ((nI 0 >>> (nI i &&& 31)) &&& 1) = 1 := lt4 (by decide) (by decide) (by decide) (by decide)
        rw [if_neg (show ¬ (4 : Int32) ≤ nI i from nI_ge hi (by decide)), if_pos rfl, if_neg (hz i hi), nI_1]
      · intro r
        show bd_L_noteWrong_2 _ _ r (nI 4) _ _ = _
        unfold bd_L_noteWrong_2
        rw [if_pos (show (4 : Int32) ≤ nI 4 from by decide)]
    · obtain ⟨h1, h2⟩ := low_f hx h0
      have hl := low4_lt x
      rw [if_neg h0, if_pos rfl]
      unfold f_L_noteWrong
      have h := it3_seq (F := bd_L_noteWrong_2 (nI x) (nI e)) (fun i => nI i) (fun i => if i ≤ low4 x then -6 else nI e) (fun i => if i ≤ low4 x then wW else nI (low4 x)) (low4 x + 1) (K := some (nI e, nI (low4 x))) ?_ ?_ 1100 (by omega)
      · simp only [Nat.zero_le, ↓reduceIte] at h
        exact h
      · intro i hi r
        show bd_L_noteWrong_2 _ _ r (nI i) (if i ≤ low4 x then -6 else nI e) (if i ≤ low4 x then wW else nI (low4 x)) = r (nI (i + 1)) (if i + 1 ≤ low4 x then -6 else nI e) (if i + 1 ≤ low4 x then wW else nI (low4 x))
        rw [if_pos (show i ≤ low4 x by omega), if_pos (show i ≤ low4 x by omega)]
        unfold bd_L_noteWrong_2
        rw [if_neg (show ¬ (4 : Int32) ≤ nI i from nI_ge (b := 4) (by omega) (by decide)), if_pos rfl]
        by_cases z : i = low4 x
        · rw [if_pos (by rw [z]; exact h1), if_neg (by omega), if_neg (by omega), nI_1, z]
        · rw [if_neg (h2 i (by omega)), if_pos (by omega), if_pos (by omega), nI_1]
      · intro r
        show bd_L_noteWrong_2 _ _ r (nI (low4 x + 1)) (if low4 x + 1 ≤ low4 x then -6 else nI e) (if low4 x + 1 ≤ low4 x then wW else nI (low4 x)) = _
        rw [if_neg (by omega), if_neg (by omega)]
        unfold bd_L_noteWrong_2
        rw [if_neg e6]
        split <;> rfl
  · have h6 : ¬ nI k = -6 := nI_ne_m6 hk
    rw [if_neg h6, ite_self]
    unfold f_L_noteWrong
    show bd_L_noteWrong_2 (nI x) (nI e) (it3 (bd_L_noteWrong_2 (nI x) (nI e)) 1099) 0 (nI k) wW = _
    unfold bd_L_noteWrong_2
    rw [if_neg (by decide), if_neg h6]
