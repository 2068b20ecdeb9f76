/-! game: the chance in millionths -/
theorem n_div {C B R b : Nat} (h : C * B = R * b) (hB : 0 < B) (hb : 0 < b) : C * 1000000 / b = R * 1000000 / B := by
  rw [← Nat.mul_div_mul_right (C * 1000000) b hB, ← Nat.mul_div_mul_right (R * 1000000) B hb, Nat.mul_right_comm C, h, Nat.mul_right_comm R b, Nat.mul_comm b B]
section NG
variable (r : Nat → Int32) (tc : Int64) (mr : Nat → Int32) (pd : Int32) (mp : Nat → Int32) (ta : Nat → Int32) (fs : Int32)
theorem n_game {a b P G S h k sv : Nat} (hok : s_ok a b P G S h k) (hr : s_rules r a b P G S h k) (hm : s_rules mr a b P G S h k) (hsv : sv ≤ 1) : ∃ (ga w : Nat), ga ≤ 1000000 ∧ (∀ (to : Int32) (un : Int64) (fc fl : Nat → Int64), ∃ (fc' fl' : Nat → Int64), f_X0_inMillionths (nI sv) r to un fc fl = some (lN ga, nI P, lN (g_U w k), fc', fl')) ∧ (∀ (th : Int32) (ch la : Nat → Int64) (be : Int64) (se : Nat → Int64), ∃ (ch' la' : Nat → Int64), f_X7_gameOf (nI sv) th tc mr pd mp ch la be se ta fs = some (lN ga, ch', la', lN (h_B w))) := by
  obtain ⟨r0, r1, r2, r3, r4, r5, r6⟩ := hr
  obtain ⟨m0, m1, m2, m3, m4, m5, m6⟩ := hm
  obtain ⟨o1, o2, o3, o4, o5, o6, o7, o8, o9, o10, o11, o12⟩ := hok
  obtain ⟨w, hw, q1, q2⟩ := j_sv r mr o1 o2 o3 o4 r0 r1 m0 m1 hsv
  obtain ⟨H, hH⟩ : ∃ H, H = s_hs h sv := ⟨_, rfl⟩
  have hHP : H ≤ P - 2 := by
    rw [hH]
    unfold s_hs
    split <;> omega
  obtain ⟨d, hd⟩ : ∃ d, d = 2 * P - H := ⟨_, rfl⟩
  obtain ⟨b1, b2⟩ := j_b (k := k) (d := d) hw (by omega)
  obtain ⟨B1, B2, B3⟩ := i_Bp w hw
  obtain ⟨u1, u2, u3⟩ := i_Up w k hw
  have id1 := (i_id (k := k) (x := 0) hw (by decide) o5 o6 d H 0 (by omega) (by omega)).1
  have hCU := i_CU (k := k) hw o5 o6 (show H + 0 + d = 2 * P by omega) (by omega)
  have hp : 10 ^ d ≤ 10 ^ 10 := Nat.pow_le_pow_right (by decide) (by omega)
  have hp2 : g_U w k * 10 ^ d ≤ 181 * 10 ^ 10 := Nat.mul_le_mul u2 hp
  have hp3 : (181 : Nat) * 10 ^ 10 ≤ 1810000000000 := by decide
  have hRB := i_RB (P := P) (k := k) hw (d + 2) H 0
  refine ⟨h_V w P k 0 (d + 2) H 0 * 1000000 / h_B w, w, ?_, ?_, ?_⟩
  · refine Nat.le_trans (Nat.div_le_div_right (Nat.mul_le_mul_right 1000000 hRB)) ?_
    rw [Nat.mul_div_cancel_left _ B1]
    exact Nat.le_refl _
  · intro to un fc fl
    obtain ⟨fc', fl', g1, g2⟩ := g_reckon q1 r2 r6 (show w ≤ 9 by omega) o5 o6 o12 to un fc fl
    have gv := (g2 H 0 (by omega) (by omega) (by omega) (by omega)).1
    rw [show 2 * P - H - 0 = d by omega] at gv
    refine ⟨fc', fl', ?_⟩
    have hn : ¬ lN (g_U w k * 10 ^ d) = 0 := fun z => absurd ((pk_lEQ (b := 0) (by omega) (by decide)).mp z) (by omega)
    have hc : ¬ lg_cmp (lN (g_U w k * 10 ^ d)) 0 ≤ 0 := fun z => absurd ((pk_lLE (b := 0) (by omega) (by decide)).mp ((lg_cmp_le _ _).mp z)) (by omega)
    unfold f_X0_inMillionths
    refine Eq.trans (p_b4 g1) ?_
    refine Eq.trans (p_b1 (p_hs r r5 hsv)) ?_
    rw [← hH]
    refine Eq.trans (p_b1 (show f_X0_bottom (nI H) 0 r (nI P) (lN (g_U w k)) fc' fl' = some (lN (g_U w k * 10 ^ d)) from Eq.trans (g_bottom (j := 0) o6 (by omega) r fc' fl') (by rw [show 2 * P - H - 0 = d by omega]))) ?_
    rw [if_neg hc]
    refine Eq.trans (p_b1 (show f_X1_at (nI H) 0 7 49 fc' = _ from g_at7 (j := 0) (by omega) (by omega) fc')) ?_
    rw [if_neg hn, gv, show lN (g_V w (g_U w k) P k 0 d H 0) * (1000000 : Int64) = lN (g_V w (g_U w k) P k 0 d H 0 * 1000000) from lN_mul _ 1000000, pk_lDiv (by omega) b1 (by omega), n_div id1 B1 b1]
  · intro th ch la be se
    obtain ⟨ch', la', w1, w2⟩ := h_works th tc mr pd mp se ta fs hsv q2 m2 m6 (show w ≤ 9 by omega) o5 o6 o12 ch la be
    have hv := (w2 H 0 (by omega) (by omega) (by omega) (by omega)).1
    rw [show 2 * P + 2 - H - 0 = d + 2 by omega] at hv
    have hn : ¬ lN (h_B w) = 0 := fun z => absurd ((pk_lEQ (b := 0) (by omega) (by decide)).mp z) (by omega)
    have h26 : ∀ s0 : Int32, s0 = nI (7 * H + 0) → b_X7_gameOf_26 s0 th tc mr pd mp ch' la' (lN (h_B w)) se ta fs = some (lN (h_V w P k 0 (d + 2) H 0 * 1000000 / h_B w), ch', la', lN (h_B w)) := by
      intro s0 hs
      subst hs
      unfold b_X7_gameOf_26
      rw [if_neg (p_gd (show 7 * H + 0 < 49 by omega) (by decide)), p_cl (by omega), if_neg hn, hv, show lN (h_V w P k 0 (d + 2) H 0) * (1000000 : Int64) = lN (h_V w P k 0 (d + 2) H 0 * 1000000) from lN_mul _ 1000000, pk_lDiv (by omega) B1 (by omega)]
    refine ⟨ch', la', ?_⟩
    unfold f_X7_gameOf
    refine Eq.trans (p_b3 w1) ?_
    rcases (show sv = 0 ∨ sv = 1 by omega) with e | e
    · rw [if_pos (show nI sv = 0 by rw [e]; rfl)]
      refine h26 _ ?_
      rw [m5, show (7 : Int32) * nI h = nI (7 * h) from pk_mul 7 h, hH, e]
      rfl
    · rw [if_neg (show ¬ nI sv = 0 by rw [e]; decide)]
      refine h26 _ ?_
      rw [hH, e]
      rfl
end NG
section NZ
variable (r : Nat → Int32) (to : Int32) (un : Int64) (fc fl bg bs : Nat → Int64) (wn pl : Nat → Int32) (tr : Int64) (th : Int32) (tc : Int64) (mr : Nat → Int32) (pd : Int32) (mp : Nat → Int32) (ch la : Nat → Int64) (be : Int64) (se : Nat → Int64) (ta : Nat → Int32) (fs : Int32)
theorem z_game (x1 : Int32) (h : z_I r wn pl tr tc mr pd mp ta fs) : ∃ (v : Int32) (to' : Int32) (un' : Int64) (fc' : (Nat → Int64)) (fl' : (Nat → Int64)) (th' : Int32) (ch' : (Nat → Int64)) (la' : (Nat → Int64)) (be' : Int64), f_X6_game x1 r to un fc fl bg bs wn pl tr = some (v, to', un', fc', fl') ∧ f_X7_game x1 th tc mr pd mp ch la be se ta fs = some (v, th', ch', la', be') ∧ z_I r wn pl tr tc mr pd mp ta fs := by
  obtain ⟨htr, a, b, P, G, S, hh, k, n, bits, hok, hr, hm, hn, hpd, hb, hl, hpl, hta⟩ := id h
  rcases p_isEither x1 with ⟨i6, i7⟩ | ⟨sv, hsv, e1, i6, i7⟩
  · refine ⟨-1, to, un, fc, fl, 0, ch, la, be, ?_, ?_, h⟩
    · unfold f_X6_game
      exact p_b1 i6
    · unfold f_X7_game
      exact p_b1 i7
  obtain ⟨ga, w, g1, g2, g3⟩ := n_game r tc mr pd mp ta fs hok hr hm hsv
  obtain ⟨fc', fl', q1⟩ := g2 to un fc fl
  obtain ⟨ch', la', q2⟩ := g3 0 ch la be se
  refine ⟨Int64.toInt32 (lN ga), nI P, lN (g_U w k), fc', fl', 0, ch', la', lN (h_B w), ?_, ?_, h⟩
  · unfold f_X6_game
    refine Eq.trans (p_b1 i6) ?_
    rw [if_neg (show ¬ (1 : Int32) = 0 by decide), e1]
    exact p_b5 q1
  · unfold f_X7_game
    refine Eq.trans (p_b1 i7) ?_
    rw [if_neg (show ¬ (1 : Int32) = 0 by decide), e1]
    exact p_b4 q2
end NZ
