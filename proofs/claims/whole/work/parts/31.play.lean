/-! The play: class and reference, each against the numbers. -/
theorem p_i64 {P G S h k a b : Nat} : True := trivial
theorem p_hs (r : Nat → Int32) {h sv : Nat} (hh : r 5 = nI h) (hsv : sv ≤ 1) : f_X5_headStartOfA (nI sv) r = some (nI (s_hs h sv)) := by
  unfold f_X5_headStartOfA s_hs
  rcases (show sv = 0 ∨ sv = 1 by omega) with rfl | rfl
  · rw [hh]; rfl
  · rfl
/-- a set is over behind a game (x, y won now) -/
def s_over (G x y : Nat) : Prop := (G ≤ x ∧ y + 2 ≤ x) ∨ (G ≤ y ∧ x + 2 ≤ y) ∨ 2 * G < x + y
/-- what holds of every state that is reached -/
def s_wf (G n : Nat) : s_S → Prop
  | (p, q, x, y, u, v, aw, al, bw, bl, f, sv) => p ≤ n ∧ q ≤ n ∧ x ≤ 7 ∧ y ≤ 7 ∧ ¬ s_over G x y ∧ u ≤ 3 ∧ v ≤ 3 ∧ aw ≤ n ∧ al ≤ n ∧ bw ≤ n ∧ bl ≤ n ∧ f ≤ 1 ∧ sv ≤ 1
theorem p_wf0 {G : Nat} (hG : 1 ≤ G) : s_wf G 0 s_0 := by
  refine ⟨by omega, by omega, by omega, by omega, ?_, by omega, by omega, by omega, by omega, by omega, by omega, by omega, by omega⟩
  unfold s_over
  omega
theorem p_wfGame {G S n w : Nat} {z : s_S} (hG : 1 ≤ G) (hG6 : G ≤ 6) (hS : S ≤ 3) (hw : w ≤ 1) (h : s_wf G n z) (hl : s_live S z) : s_wf G n (s_game G w z) := by
  obtain ⟨p, q, x, y, u, v, aw, al, bw, bl, f, sv⟩ := z
  obtain ⟨h1, h2, h3, h4, h5, h6, h7, h8, h9, h10, h11, h12, h13⟩ := h
  obtain ⟨l1, l2⟩ := hl
  unfold s_game
  dsimp only
  split
  · refine ⟨by omega, by omega, by omega, by omega, ?_, by omega, by omega, h8, h9, h10, h11, by omega, by omega⟩
    unfold s_over
    omega
  · rename_i hc
    unfold s_over at h5
    refine ⟨by omega, by omega, by omega, by omega, ?_, h6, h7, h8, h9, h10, h11, h12, by omega⟩
    unfold s_over
    omega
theorem p_wfStep {P G S h k n w : Nat} {z : s_S} (hG : 1 ≤ G) (hG6 : G ≤ 6) (hS : S ≤ 3) (hw : w ≤ 1) (hz : s_wf G n z) (hl : s_live S z) : s_wf G (n + 1) (s_step P G h k w z) := by
  obtain ⟨p, q, x, y, u, v, aw, al, bw, bl, f, sv⟩ := z
  obtain ⟨h1, h2, h3, h4, h5, h6, h7, h8, h9, h10, h11, h12, h13⟩ := hz
  have hz1 : s_wf G (n + 1) (p + (1 - w), q + w, x, y, u, v, (if sv = 0 then aw + (1 - w) else aw), (if sv = 0 then al + w else al), (if sv = 0 then bw else bw + (1 - w)), (if sv = 0 then bl else bl + w), f, sv) := by
    refine ⟨by omega, by omega, h3, h4, h5, h6, h7, ?_, ?_, ?_, ?_, h12, h13⟩ <;> (split <;> omega)
  unfold s_step
  dsimp only
  split
  · exact hz1
  · refine p_wfGame hG hG6 hS ?_ hz1 hl
    have : s_won P k (p + (1 - w) + s_hs h sv) (q + w) ≤ 2 := by
      unfold s_won
      repeat' split
      all_goals omega
    omega
theorem p_wf {P G S h k : Nat} {bits : Nat → Nat} (hG : 1 ≤ G) (hG6 : G ≤ 6) (hS : S ≤ 3) : ∀ n : Nat, (∀ j, j < n → bits j ≤ 1) → (∀ j, j < n → s_live S (s_play P G h k bits j)) → s_wf G n (s_play P G h k bits n)
  | 0, _, _ => p_wf0 hG
  | n + 1, hb, hl => p_wfStep hG hG6 hS (hb n (Nat.lt_succ_self n)) (p_wf hG hG6 hS n (fun j hj => hb j (Nat.lt_succ_of_lt hj)) (fun j hj => hl j (Nat.lt_succ_of_lt hj))) (hl n (Nat.lt_succ_self n))
theorem p_won2 (P k i j : Nat) : s_won P k i j ≤ 2 := by
  unfold s_won
  repeat' split
  all_goals omega
/-! the class: records of nI -/
theorem p_one {w a b : Nat} (hw : w ≤ 1) : f_X3_oneMore (nI w) (nI a) (nI b) = some (nI (a + (1 - w)), nI (b + w)) := by
  rcases (show w = 0 ∨ w = 1 by omega) with rfl | rfl
  · unfold f_X3_oneMore
    rw [if_pos (show nI 0 = 0 from rfl)]
    rw [show nI a + 1 = nI (a + 1) from nI_1 a]
    rfl
  · unfold f_X3_oneMore
    rw [if_neg (show ¬ nI 1 = 0 by decide)]
    rw [show nI b + 1 = nI (b + 1) from nI_1 b]
    rfl
theorem p_endSet (r wn : Nat → Int32) {w p q x y u v aw al bw bl f sv n : Nat} (hw : w ≤ 1) (hf : f ≤ 1) : f_X4_endSet (nI w) r wn (s_pl n (p, q, x, y, u, v, aw, al, bw, bl, f, sv)) = some (s_pl n (p, q, 0, 0, u + (1 - w), v + w, aw, al, bw, bl, 1 - f, 1 - f)) := by
  unfold f_X4_endSet
  rw [p_b2 (show f_X3_clear _ _ = some (0, 0) from rfl)]
  rw [p_b2 (show f_X3_oneMore (nI w) ((s_pl n (p, q, x, y, u, v, aw, al, bw, bl, f, sv)) 4) ((s_pl n (p, q, x, y, u, v, aw, al, bw, bl, f, sv)) 5) = some (nI (u + (1 - w)), nI (v + w)) from p_one hw)]
  rcases (show f = 0 ∨ f = 1 by omega) with rfl | rfl
  · rw [if_pos (show (s_pl n (p, q, x, y, u, v, aw, al, bw, bl, 0, sv)) 10 = 0 from rfl)]
    rfl
  · rw [if_neg (show ¬ (s_pl n (p, q, x, y, u, v, aw, al, bw, bl, 1, sv)) 10 = 0 from by show ¬ nI 1 = 0; decide)]
    rfl
theorem p_lead1 {x y : Nat} (h : y < x) : s_lead x y = 1 := if_pos h
theorem p_lead2 {x y : Nat} (h : x < y) : s_lead x y = 2 := by unfold s_lead; rw [if_neg (by omega), if_pos h]
/-- the class ends a game: w has won it -/
theorem p_endGame (r wn : Nat → Int32) {G w p q x y u v aw al bw bl f sv n : Nat} (hr : r 3 = nI G) (hG : 1 ≤ G) (hG6 : G ≤ 6) (hw : w ≤ 1) (hx : x ≤ 7) (hy : y ≤ 7) (hn : ¬ s_over G x y) (hf : f ≤ 1) (hsv : sv ≤ 1) : f_X4_endGame (nI w) r wn (s_pl n (p, q, x, y, u, v, aw, al, bw, bl, f, sv)) = some (s_pl n (s_game G w (p, q, x, y, u, v, aw, al, bw, bl, f, sv))) := by
  have hb : ∀ sv1 : Nat, sv1 ≤ 1 → b_X4_endGame_28 (nI (1 - sv1)) r wn (s_pl n (0, 0, x + (1 - w), y + w, u, v, aw, al, bw, bl, f, sv1)) = some (s_pl n (s_game G w (p, q, x, y, u, v, aw, al, bw, bl, f, sv1))) := by
    intro sv1 hs1
    unfold b_X4_endGame_28
    rw [p_b1 (show f_X5_setWinner ((s_pl n (0, 0, x + (1 - w), y + w, u, v, aw, al, bw, bl, f, sv1)) 2) ((s_pl n (0, 0, x + (1 - w), y + w, u, v, aw, al, bw, bl, f, sv1)) 3) r = _ from p_setW r hr hG6 (x := x + (1 - w)) (y := y + w) (by omega) (by omega))]
    unfold s_over at hn
    unfold s_game
    dsimp only
    by_cases hc : (G ≤ x + (1 - w) ∧ y + w + 2 ≤ x + (1 - w)) ∨ (G ≤ y + w ∧ x + (1 - w) + 2 ≤ y + w) ∨ 2 * G < x + (1 - w) + (y + w)
    · rw [if_pos hc, if_pos hc]
      rcases (show w = 0 ∨ w = 1 by omega) with rfl | rfl
      · rw [p_lead1 (by omega), if_neg (show ¬ nI 1 = 0 by decide), if_pos (show nI 1 = 1 from rfl)]
        unfold b_X4_endGame_68
        exact p_b1 (show f_X4_endSet 0 r wn _ = _ from p_endSet r wn (w := 0) (p := 0) (q := 0) (x := x + (1 - 0)) (y := y + 0) (u := u) (v := v) (aw := aw) (al := al) (bw := bw) (bl := bl) (f := f) (sv := 1 - sv1) (n := n) (by omega) hf)
      · rw [p_lead2 (by omega), if_neg (show ¬ nI 2 = 0 by decide), if_neg (show ¬ nI 2 = 1 by decide)]
        unfold b_X4_endGame_68
        exact p_b1 (show f_X4_endSet 1 r wn _ = _ from p_endSet r wn (w := 1) (p := 0) (q := 0) (x := x + (1 - 1)) (y := y + 1) (u := u) (v := v) (aw := aw) (al := al) (bw := bw) (bl := bl) (f := f) (sv := 1 - sv1) (n := n) (by omega) hf)
    · rw [if_neg hc, if_neg hc, if_pos (show nI 0 = 0 from rfl)]
      rfl
  unfold f_X4_endGame
  rw [p_b2 (show f_X3_clear _ _ = some (0, 0) from rfl)]
  rw [p_b2 (show f_X3_oneMore (nI w) ((s_pl n (p, q, x, y, u, v, aw, al, bw, bl, f, sv)) 2) ((s_pl n (p, q, x, y, u, v, aw, al, bw, bl, f, sv)) 3) = some (nI (x + (1 - w)), nI (y + w)) from p_one hw)]
  rcases (show sv = 0 ∨ sv = 1 by omega) with rfl | rfl
  · rw [if_pos (show (s_pl n (p, q, x, y, u, v, aw, al, bw, bl, f, 0)) 11 = 0 from rfl)]
    exact hb 0 (by omega)
  · rw [if_neg (show ¬ (s_pl n (p, q, x, y, u, v, aw, al, bw, bl, f, 1)) 11 = 0 from by show ¬ nI 1 = 0; decide)]
    exact hb 1 (by omega)
theorem p_pointsOfA (r wn : Nat → Int32) {h p q x y u v aw al bw bl f sv n : Nat} (hh : r 5 = nI h) (hsv : sv ≤ 1) : f_X4_pointsOfA r wn (s_pl n (p, q, x, y, u, v, aw, al, bw, bl, f, sv)) = some (nI (p + s_hs h sv)) := by
  unfold f_X4_pointsOfA
  rw [p_b1 (show f_X5_headStartOfA ((s_pl n (p, q, x, y, u, v, aw, al, bw, bl, f, sv)) 11) r = _ from p_hs r hh hsv)]
  rw [← nI_add]
  rfl
theorem p_tell74 (r wn : Nat → Int32) {P G h k w p q x y u v aw al bw bl f sv n : Nat} (h2 : r 2 = nI P) (h3 : r 3 = nI G) (h5 : r 5 = nI h) (h6 : r 6 = nI k) (hP1 : 1 ≤ P) (hP5 : P ≤ 5) (hG : 1 ≤ G) (hG6 : G ≤ 6) (hk : k ≤ 2) (hh : h ≤ 3) (hw : w ≤ 1) (hp : p ≤ 400) (hq : q ≤ 400) (hx : x ≤ 7) (hy : y ≤ 7) (hn : ¬ s_over G x y) (hf : f ≤ 1) (hsv : sv ≤ 1) :
    b_X4_tell_74 (nI w) r wn (s_pl n (p, q, x, y, u, v, aw, al, bw, bl, f, sv)) = some (wn, s_pl n (if s_won P k (p + (1 - w) + s_hs h sv) (q + w) = 0 then (p + (1 - w), q + w, x, y, u, v, aw, al, bw, bl, f, sv) else s_game G (s_won P k (p + (1 - w) + s_hs h sv) (q + w) - 1) (p + (1 - w), q + w, x, y, u, v, aw, al, bw, bl, f, sv))) := by
  have hs : s_hs h sv ≤ 3 := by unfold s_hs; split <;> omega
  unfold b_X4_tell_74
  rw [p_b2 (show f_X3_oneMore (nI w) ((s_pl n (p, q, x, y, u, v, aw, al, bw, bl, f, sv)) 0) ((s_pl n (p, q, x, y, u, v, aw, al, bw, bl, f, sv)) 1) = some (nI (p + (1 - w)), nI (q + w)) from p_one hw)]
  refine Eq.trans (p_b1 (show f_X4_pointsOfA r wn (mk13 _ _ _ _ _ _ _ _ _ _ _ _ _) = some (nI (p + (1 - w) + s_hs h sv)) from p_pointsOfA r wn (p := p + (1 - w)) (q := q + w) (x := x) (y := y) (u := u) (v := v) (aw := aw) (al := al) (bw := bw) (bl := bl) (f := f) (n := n) h5 hsv)) ?_
  refine Eq.trans (p_b1 (show f_X5_gameWinner (r 6) (nI (p + (1 - w) + s_hs h sv)) (nI (q + w)) r = some (nI (s_won P k (p + (1 - w) + s_hs h sv) (q + w))) from by rw [h6]; exact p_gw r h2 hP1 hP5 hk (by omega) (by omega))) ?_
  have hlt := p_won2 P k (p + (1 - w) + s_hs h sv) (q + w)
  rcases (show s_won P k (p + (1 - w) + s_hs h sv) (q + w) = 0 ∨ s_won P k (p + (1 - w) + s_hs h sv) (q + w) = 1 ∨ s_won P k (p + (1 - w) + s_hs h sv) (q + w) = 2 by omega) with e | e | e
  · rw [e, if_pos (show nI 0 = 0 from rfl), if_pos rfl]
    rfl
  · rw [e, if_neg (show ¬ nI 1 = 0 by decide), if_pos (show nI 1 = 1 from rfl), if_neg (by decide)]
    unfold b_X4_tell_123
    exact p_b1 (show f_X4_endGame 0 r wn _ = _ from p_endGame r wn (w := 0) (p := p + (1 - w)) (q := q + w) (x := x) (y := y) (u := u) (v := v) (aw := aw) (al := al) (bw := bw) (bl := bl) (f := f) (sv := sv) (n := n) h3 hG hG6 (by omega) hx hy hn hf hsv)
  · rw [e, if_neg (show ¬ nI 2 = 0 by decide), if_neg (show ¬ nI 2 = 1 by decide), if_neg (by decide)]
    unfold b_X4_tell_123
    exact p_b1 (show f_X4_endGame 1 r wn _ = _ from p_endGame r wn (w := 1) (p := p + (1 - w)) (q := q + w) (x := x) (y := y) (u := u) (v := v) (aw := aw) (al := al) (bw := bw) (bl := bl) (f := f) (sv := sv) (n := n) h3 hG hG6 (by omega) hx hy hn hf hsv)
/-- the class plays a point -/
theorem p_tell (r wn : Nat → Int32) {P G h k w n : Nat} {z : s_S} (h2 : r 2 = nI P) (h3 : r 3 = nI G) (h5 : r 5 = nI h) (h6 : r 6 = nI k) (hP1 : 1 ≤ P) (hP5 : P ≤ 5) (hG : 1 ≤ G) (hG6 : G ≤ 6) (hk : k ≤ 2) (hh : h ≤ 3) (hw : w ≤ 1) (hn : n < 400) (hz : s_wf G n z) : f_X4_tell (nI w) r wn (s_pl n z) = some (upd wn n (nI (1 - w)), s_pl (n + 1) (s_step P G h k w z)) := by
  obtain ⟨p, q, x, y, u, v, aw, al, bw, bl, f, sv⟩ := z
  obtain ⟨w1, w2, w3, w4, w5, w6, w7, w8, w9, w10, w11, w12, w13⟩ := hz
  have h37 : ∀ b : Nat, b ≤ 1 → b_X4_tell_37 (nI w) (nI b) (nI n) r wn (s_pl n (p, q, x, y, u, v, aw, al, bw, bl, f, sv)) = some (upd wn n (nI b), s_pl (n + 1) (s_step P G h k w (p, q, x, y, u, v, aw, al, bw, bl, f, sv))) := by
    intro b hb
    have hnar : vp_nar .boolean (nI b) = nI b := by rcases (show b = 0 ∨ b = 1 by omega) with rfl | rfl <;> rfl
    unfold b_X4_tell_37
    rw [if_neg (p_gd (n := n) (N := 400) hn (by decide)), p_cl (show n < 2 ^ 31 by omega), hnar]
    rcases (show sv = 0 ∨ sv = 1 by omega) with rfl | rfl
    · rw [if_pos (show (s_pl n (p, q, x, y, u, v, aw, al, bw, bl, f, 0)) 11 = 0 from rfl)]
      rw [p_b2 (show f_X3_oneMore (nI w) ((s_pl n (p, q, x, y, u, v, aw, al, bw, bl, f, 0)) 6) ((s_pl n (p, q, x, y, u, v, aw, al, bw, bl, f, 0)) 7) = some (nI (aw + (1 - w)), nI (al + w)) from p_one hw)]
      rw [show ((s_pl n (p, q, x, y, u, v, aw, al, bw, bl, f, 0)) 12 + 1) = nI (n + 1) from nI_1 n]
      exact p_tell74 r (upd wn n (nI b)) (p := p) (q := q) (x := x) (y := y) (u := u) (v := v) (aw := aw + (1 - w)) (al := al + w) (bw := bw) (bl := bl) (f := f) (sv := 0) (n := n + 1) h2 h3 h5 h6 hP1 hP5 hG hG6 hk hh hw (by omega) (by omega) w3 w4 w5 w12 w13
    · rw [if_neg (show ¬ (s_pl n (p, q, x, y, u, v, aw, al, bw, bl, f, 1)) 11 = 0 from by show ¬ nI 1 = 0; decide)]
      rw [p_b2 (show f_X3_oneMore (nI w) ((s_pl n (p, q, x, y, u, v, aw, al, bw, bl, f, 1)) 8) ((s_pl n (p, q, x, y, u, v, aw, al, bw, bl, f, 1)) 9) = some (nI (bw + (1 - w)), nI (bl + w)) from p_one hw)]
      rw [show ((s_pl n (p, q, x, y, u, v, aw, al, bw, bl, f, 1)) 12 + 1) = nI (n + 1) from nI_1 n]
      exact p_tell74 r (upd wn n (nI b)) (p := p) (q := q) (x := x) (y := y) (u := u) (v := v) (aw := aw) (al := al) (bw := bw + (1 - w)) (bl := bl + w) (f := f) (sv := 1) (n := n + 1) h2 h3 h5 h6 hP1 hP5 hG hG6 hk hh hw (by omega) (by omega) w3 w4 w5 w12 w13
  unfold f_X4_tell
  rw [if_neg (show ¬ (s_pl n (p, q, x, y, u, v, aw, al, bw, bl, f, sv)) 12 < 0 from nI_pos (by omega)), if_pos (show (s_pl n (p, q, x, y, u, v, aw, al, bw, bl, f, sv)) 12 < 400 from nI_lt hn (by decide))]
  rcases (show w = 0 ∨ w = 1 by omega) with rfl | rfl
  · rw [if_pos (show nI 0 = 0 from rfl)]
    exact h37 1 (by omega)
  · rw [if_neg (show ¬ nI 1 = 0 by decide)]
    exact h37 0 (by omega)
