/-! The reference's play. -/
section PREF
variable (th : Int32) (tc : Int64) (mr : Nat → Int32) (pd : Int32) (mp : Nat → Int32) (ch la : Nat → Int64) (be : Int64) (se : Nat → Int64)
theorem p_begins (ta : Nat → Int32) (fs : Int32) {h sv : Nat} (h5 : mr 5 = nI h) (h6 : ta 6 = nI sv) (hsv : sv ≤ 1) : f_X7_beginsGame th tc mr pd mp ch la be se ta fs = some (upd (upd ta 0 (nI (s_hs h sv))) 1 0) := by
  have hg : ¬ ((0 : Int32) < 0 ∨ 13 ≤ Int32.toNatClampNeg 0) := by decide
  unfold f_X7_beginsGame b_X7_beginsGame_25 s_hs
  rcases (show sv = 0 ∨ sv = 1 by omega) with rfl | rfl
  · rw [h6, if_pos (show nI 0 = 0 from rfl), if_neg hg, h5, if_pos rfl]
    rfl
  · rw [h6, if_neg (show ¬ nI 1 = 0 by decide), if_neg hg, if_neg (by decide)]
    rfl
/-- a set is won behind a game that w won: w's sets, the server, the match -/
theorem p_wins79 (ta : Nat → Int32) {G S h n w p q x y u v aw al bw bl f sv : Nat} (h4 : mr 4 = nI S) (h5 : mr 5 = nI h) (hw : w ≤ 1) (hf : f ≤ 1) (hu : u < S) (hv : v < S) (hS : S ≤ 3)
    (t4 : ta 4 = nI u) (t5 : ta 5 = nI v) (t7 : ta 7 = nI n) (t8 : ta 8 = nI aw) (t9 : ta 9 = nI al) (t10 : ta 10 = nI bw) (t11 : ta 11 = nI bl) :
    ∃ (ta' : Nat → Int32) (fs' : Int32), b_X7_winsGame_79 (nI w) th tc mr pd mp ch la be se ta (nI f) = some (ta', fs') ∧ s_ta S h n ta' fs' (0, 0, 0, 0, u + (1 - w), v + w, aw, al, bw, bl, 1 - f, 1 - f) := by
  have hf1 : (1 : Int32) - nI f = nI (1 - f) := by rcases (show f = 0 ∨ f = 1 by omega) with rfl | rfl <;> rfl
  have hg12 : ¬ ((12 : Int32) < 0 ∨ 13 ≤ Int32.toNatClampNeg 12) := by decide
  have hsv : s_hs h (1 - f) = s_hs h (1 - f) := rfl
  unfold b_X7_winsGame_79
  rcases (show w = 0 ∨ w = 1 by omega) with rfl | rfl
  · have hi : (4 : Int32) + nI 0 = 4 := by decide
    have hg : ¬ ((4 : Int32) < 0 ∨ 13 ≤ Int32.toNatClampNeg 4) := by decide
    have hc : Int32.toNatClampNeg 4 = 4 := by decide
    have hc12 : Int32.toNatClampNeg 12 = 12 := by decide
    rw [hi, if_neg hg, if_neg hg, if_neg hg, hc, hf1, h4]
    have hv4 : upd (upd (upd (upd ta 2 0) 3 0) 4 ((upd (upd ta 2 0) 3 0) 4 + 1)) 6 (nI (1 - f)) 4 = nI (u + 1) := by
      show ta 4 + 1 = nI (u + 1)
      rw [t4, nI_1]
    rw [hv4]
    unfold b_X7_winsGame_155 b_X7_winsGame_156
    by_cases e : u + 1 = S
    · rw [if_pos ((nI_eq (by omega) (by omega)).mpr e), if_neg hg12, hc12]
      rw [p_b1 (p_begins th tc mr pd mp ch la be se _ (nI (1 - f)) (h := h) (sv := 1 - f) h5 rfl (by omega))]
      refine ⟨_, _, rfl, congrArg nI (Nat.zero_add _).symm, rfl, rfl, rfl, hv4, t5, rfl, t7, t8, t9, t10, t11, ?_, rfl⟩
      show nI 0 = _
      rw [if_pos (show u + (1 - 0) = S by omega)]
      rfl
    · rw [if_neg (fun z => e ((nI_eq (by omega) (by omega)).mp z)), if_neg hg12, hc12]
      rw [p_b1 (p_begins th tc mr pd mp ch la be se _ (nI (1 - f)) (h := h) (sv := 1 - f) h5 rfl (by omega))]
      refine ⟨_, _, rfl, congrArg nI (Nat.zero_add _).symm, rfl, rfl, rfl, hv4, t5, rfl, t7, t8, t9, t10, t11, ?_, rfl⟩
      show (-9 : Int32) = _
      rw [if_neg (show ¬ u + (1 - 0) = S by omega), if_neg (show ¬ v + 0 = S by omega)]
  · have hi : (4 : Int32) + nI 1 = 5 := by decide
    have hg : ¬ ((5 : Int32) < 0 ∨ 13 ≤ Int32.toNatClampNeg 5) := by decide
    have hc : Int32.toNatClampNeg 5 = 5 := by decide
    have hc12 : Int32.toNatClampNeg 12 = 12 := by decide
    rw [hi, if_neg hg, if_neg hg, if_neg hg, hc, hf1, h4]
    have hv4 : upd (upd (upd (upd ta 2 0) 3 0) 5 ((upd (upd ta 2 0) 3 0) 5 + 1)) 6 (nI (1 - f)) 5 = nI (v + 1) := by
      show ta 5 + 1 = nI (v + 1)
      rw [t5, nI_1]
    rw [hv4]
    unfold b_X7_winsGame_155 b_X7_winsGame_156
    by_cases e : v + 1 = S
    · rw [if_pos ((nI_eq (by omega) (by omega)).mpr e), if_neg hg12, hc12]
      rw [p_b1 (p_begins th tc mr pd mp ch la be se _ (nI (1 - f)) (h := h) (sv := 1 - f) h5 rfl (by omega))]
      refine ⟨_, _, rfl, congrArg nI (Nat.zero_add _).symm, rfl, rfl, rfl, t4, hv4, rfl, t7, t8, t9, t10, t11, ?_, rfl⟩
      show nI 1 = _
      rw [if_neg (show ¬ u + (1 - 1) = S by omega), if_pos (show v + 1 = S by omega)]
      rfl
    · rw [if_neg (fun z => e ((nI_eq (by omega) (by omega)).mp z)), if_neg hg12, hc12]
      rw [p_b1 (p_begins th tc mr pd mp ch la be se _ (nI (1 - f)) (h := h) (sv := 1 - f) h5 rfl (by omega))]
      refine ⟨_, _, rfl, congrArg nI (Nat.zero_add _).symm, rfl, rfl, rfl, t4, hv4, rfl, t7, t8, t9, t10, t11, ?_, rfl⟩
      show (-9 : Int32) = _
      rw [if_neg (show ¬ u + (1 - 1) = S by omega), if_neg (show ¬ v + 1 = S by omega)]
/-- the reference ends a game: w has won it -/
theorem p_wins (ta : Nat → Int32) {G S h n w p q x y u v aw al bw bl f sv : Nat} (h3 : mr 3 = nI G) (h4 : mr 4 = nI S) (h5 : mr 5 = nI h) (hG : 1 ≤ G) (hG6 : G ≤ 6) (hw : w ≤ 1) (hx : x ≤ 7) (hy : y ≤ 7) (hn : ¬ s_over G x y) (hf : f ≤ 1) (hsv : sv ≤ 1) (hu : u < S) (hv : v < S) (hS : S ≤ 3)
    (t2 : ta 2 = nI x) (t3 : ta 3 = nI y) (t4 : ta 4 = nI u) (t5 : ta 5 = nI v) (t6 : ta 6 = nI sv) (t7 : ta 7 = nI n) (t8 : ta 8 = nI aw) (t9 : ta 9 = nI al) (t10 : ta 10 = nI bw) (t11 : ta 11 = nI bl) (t12 : ta 12 = -9) :
    ∃ (ta' : Nat → Int32) (fs' : Int32), f_X7_winsGame (nI w) th tc mr pd mp ch la be se ta (nI f) = some (ta', fs') ∧ s_ta S h n ta' fs' (s_game G w (p, q, x, y, u, v, aw, al, bw, bl, f, sv)) := by
  have h1s : (1 : Int32) - nI sv = nI (1 - sv) := by rcases (show sv = 0 ∨ sv = 1 by omega) with rfl | rfl <;> rfl
  unfold s_over at hn
  -- a set that goes on
  have h156 : ∀ (tb : Nat → Int32) (x1 y1 : Nat), tb 2 = nI x1 → tb 3 = nI y1 → tb 4 = nI u → tb 5 = nI v → tb 6 = nI (1 - sv) → tb 7 = nI n → tb 8 = nI aw → tb 9 = nI al → tb 10 = nI bw → tb 11 = nI bl → tb 12 = -9 →
      ∃ (ta' : Nat → Int32) (fs' : Int32), b_X7_winsGame_156 th tc mr pd mp ch la be se tb (nI f) = some (ta', fs') ∧ s_ta S h n ta' fs' (0, 0, x1, y1, u, v, aw, al, bw, bl, f, 1 - sv) := by
    intro tb x1 y1 b2 b3 b4 b5 b6 b7 b8 b9 b10 b11 b12
    unfold b_X7_winsGame_156
    rw [p_b1 (p_begins th tc mr pd mp ch la be se tb (nI f) (h := h) (sv := 1 - sv) h5 b6 (by omega))]
    refine ⟨_, _, rfl, ?_, rfl, b2, b3, b4, b5, b6, b7, b8, b9, b10, b11, ?_, rfl⟩
    · show nI (s_hs h (1 - sv)) = nI (0 + s_hs h (1 - sv))
      rw [Nat.zero_add]
    · show tb 12 = _
      rw [b12, if_neg (show ¬ u = S by omega), if_neg (show ¬ v = S by omega)]
  unfold f_X7_winsGame s_game
  dsimp only
  rcases (show w = 0 ∨ w = 1 by omega) with rfl | rfl
  · have hi : (2 : Int32) + nI 0 = 2 := by decide
    have hj : (3 : Int32) - nI 0 = 3 := by decide
    have hg2 : ¬ ((2 : Int32) < 0 ∨ 13 ≤ Int32.toNatClampNeg 2) := by decide
    have hg3 : ¬ ((3 : Int32) < 0 ∨ 13 ≤ Int32.toNatClampNeg 3) := by decide
    have hc2 : Int32.toNatClampNeg 2 = 2 := by decide
    have hc3 : Int32.toNatClampNeg 3 = 3 := by decide
    rw [hi, hj, if_neg hg2, if_neg hg3, if_neg hg2, hc2, hc3, t2, t3, h3, nI_1]
    have e6 : upd ta 2 (nI (x + 1)) 6 = nI sv := t6
    rw [e6, h1s]
    have h79 := p_wins79 th tc mr pd mp ch la be se (upd (upd ta 2 (nI (x + 1))) 6 (nI (1 - sv))) (G := G) (S := S) (h := h) (n := n) (w := 0) (p := 0) (q := 0) (x := 0) (y := 0) (u := u) (v := v) (aw := aw) (al := al) (bw := bw) (bl := bl) (f := f) (sv := 0) h4 h5 (by omega) hf hu hv hS t4 t5 t7 t8 t9 t10 t11
    have hgo := h156 (upd (upd ta 2 (nI (x + 1))) 6 (nI (1 - sv))) (x + 1) y rfl t3 t4 t5 rfl t7 t8 t9 t10 t11 t12
    have h66 : b_X7_winsGame_66 (nI 0) (nI G) (nI (x + 1)) (nI y) th tc mr pd mp ch la be se (upd (upd ta 2 (nI (x + 1))) 6 (nI (1 - sv))) (nI f) = (if x + 1 = G + 1 ∧ y = G then b_X7_winsGame_79 (nI 0) th tc mr pd mp ch la be se (upd (upd ta 2 (nI (x + 1))) 6 (nI (1 - sv))) (nI f) else b_X7_winsGame_156 th tc mr pd mp ch la be se (upd (upd ta 2 (nI (x + 1))) 6 (nI (1 - sv))) (nI f)) := by
      unfold b_X7_winsGame_66
      rw [nI_1 G]
      by_cases a1 : x + 1 = G + 1
      · rw [if_pos ((nI_eq (by omega) (by omega)).mpr a1)]
        by_cases a2 : y = G
        · rw [if_pos ((nI_eq (by omega) (by omega)).mpr a2), if_pos ⟨a1, a2⟩]
        · rw [if_neg (fun z => a2 ((nI_eq (by omega) (by omega)).mp z)), if_neg (fun z => a2 z.2)]
      · rw [if_neg (fun z => a1 ((nI_eq (by omega) (by omega)).mp z)), if_neg (fun z => a1 z.1)]
    rw [h66]
    have hsub : (2 ≤ nI (x + 1) - nI y) ↔ y + 2 ≤ x + 1 := by
      have e1 : (nI (x + 1) - nI y).toInt = ((x + 1 : Nat) : Int) - y := pk_sub_toInt (by omega) (by omega)
      have e2 : (2 : Int32).toInt = 2 := rfl
      rw [Int32.le_iff_toInt_le, e1, e2]
      omega
    by_cases c1 : x + 1 < G
    · rw [if_pos (nI_lt c1 (by omega)), if_neg (by omega), if_neg (by omega)]
      exact hgo
    · rw [if_neg (nI_nlt (by omega) (by omega))]
      by_cases c2 : y + 2 ≤ x + 1
      · rw [if_pos (hsub.mpr c2), if_pos (by omega)]
        exact h79
      · rw [if_neg (fun z => c2 (hsub.mp z))]
        by_cases c3 : x + 1 = G + 1 ∧ y = G
        · rw [if_pos c3, if_pos (by omega)]
          exact h79
        · rw [if_neg c3, if_neg (by omega)]
          exact hgo
  · have hi : (2 : Int32) + nI 1 = 3 := by decide
    have hj : (3 : Int32) - nI 1 = 2 := by decide
    have hg2 : ¬ ((2 : Int32) < 0 ∨ 13 ≤ Int32.toNatClampNeg 2) := by decide
    have hg3 : ¬ ((3 : Int32) < 0 ∨ 13 ≤ Int32.toNatClampNeg 3) := by decide
    have hc2 : Int32.toNatClampNeg 2 = 2 := by decide
    have hc3 : Int32.toNatClampNeg 3 = 3 := by decide
    rw [hi, hj, if_neg hg3, if_neg hg2, if_neg hg3, hc2, hc3, t2, t3, h3, nI_1]
    have e6 : upd ta 3 (nI (y + 1)) 6 = nI sv := t6
    rw [e6, h1s]
    have h79 := p_wins79 th tc mr pd mp ch la be se (upd (upd ta 3 (nI (y + 1))) 6 (nI (1 - sv))) (G := G) (S := S) (h := h) (n := n) (w := 1) (p := 0) (q := 0) (x := 0) (y := 0) (u := u) (v := v) (aw := aw) (al := al) (bw := bw) (bl := bl) (f := f) (sv := 0) h4 h5 (by omega) hf hu hv hS t4 t5 t7 t8 t9 t10 t11
    have hgo := h156 (upd (upd ta 3 (nI (y + 1))) 6 (nI (1 - sv))) x (y + 1) t2 rfl t4 t5 rfl t7 t8 t9 t10 t11 t12
    have h66 : b_X7_winsGame_66 (nI 1) (nI G) (nI (y + 1)) (nI x) th tc mr pd mp ch la be se (upd (upd ta 3 (nI (y + 1))) 6 (nI (1 - sv))) (nI f) = (if y + 1 = G + 1 ∧ x = G then b_X7_winsGame_79 (nI 1) th tc mr pd mp ch la be se (upd (upd ta 3 (nI (y + 1))) 6 (nI (1 - sv))) (nI f) else b_X7_winsGame_156 th tc mr pd mp ch la be se (upd (upd ta 3 (nI (y + 1))) 6 (nI (1 - sv))) (nI f)) := by
      unfold b_X7_winsGame_66
      rw [nI_1 G]
      by_cases a1 : y + 1 = G + 1
      · rw [if_pos ((nI_eq (by omega) (by omega)).mpr a1)]
        by_cases a2 : x = G
        · rw [if_pos ((nI_eq (by omega) (by omega)).mpr a2), if_pos ⟨a1, a2⟩]
        · rw [if_neg (fun z => a2 ((nI_eq (by omega) (by omega)).mp z)), if_neg (fun z => a2 z.2)]
      · rw [if_neg (fun z => a1 ((nI_eq (by omega) (by omega)).mp z)), if_neg (fun z => a1 z.1)]
    rw [h66]
    have hsub : (2 ≤ nI (y + 1) - nI x) ↔ x + 2 ≤ y + 1 := by
      have e1 : (nI (y + 1) - nI x).toInt = ((y + 1 : Nat) : Int) - x := pk_sub_toInt (by omega) (by omega)
      have e2 : (2 : Int32).toInt = 2 := rfl
      rw [Int32.le_iff_toInt_le, e1, e2]
      omega
    by_cases c1 : y + 1 < G
    · rw [if_pos (nI_lt c1 (by omega)), if_neg (by omega), if_neg (by omega)]
      exact hgo
    · rw [if_neg (nI_nlt (by omega) (by omega))]
      by_cases c2 : x + 2 ≤ y + 1
      · rw [if_pos (hsub.mpr c2), if_pos (by omega)]
        exact h79
      · rw [if_neg (fun z => c2 (hsub.mp z))]
        by_cases c3 : y + 1 = G + 1 ∧ x = G
        · rw [if_pos c3, if_pos (by omega)]
          exact h79
        · rw [if_neg c3, if_neg (by omega)]
          exact hgo
end PREF
