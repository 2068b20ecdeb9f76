/-! weight, heaviest, game -/
section LW
variable (r : Nat → Int32) (to : Int32) (un : Int64) (fc fl bg bs : Nat → Int64) (wn pl : Nat → Int32) (tr : Int64) (th : Int32) (tc : Int64) (mr : Nat → Int32) (pd : Int32) (mp : Nat → Int32) (ch la : Nat → Int64) (be : Int64) (se : Nat → Int64) (ta : Nat → Int32) (fs : Int32)
theorem l_wAt {w P k d i j : Nat} (hP5 : P ≤ 5) (hd : i + j + d + 1 = 2 * P) (hi : i ≤ P) (hj : j ≤ P) (hI : g_In w (g_U w k) P k 0 0 fc fl) (to : Int32) (un : Int64) : f_X0_weightAt (nI i) (nI j) r to un fc fl = some (lN (g_V w (g_U w k) P k 0 d (i + 1) j) - lN (g_V w (g_U w k) P k 0 d i (j + 1))) := by
  unfold f_X0_weightAt
  rw [nI_1, nI_1]
  refine Eq.trans (p_b1 (g_at7 (by omega) (by omega) fc)) ?_
  refine Eq.trans (p_b1 (g_at7 (by omega) (by omega) fc)) ?_
  rw [(hI (i + 1) j (by omega) (by omega) (by omega) (by omega)).1, (hI i (j + 1) (by omega) (by omega) (by omega) (by omega)).1, show 2 * P - (i + 1) - j = d by omega, show 2 * P - i - (j + 1) = d by omega]
theorem l_86 {w P k d i j p : Nat} (x1 x2 s0 : Int32) (e1 : x1 - s0 = nI i) (e2 : x2 - s0 = nI j) (hw : w < 10) (hp : p ≤ 1) (hP1 : 1 ≤ P) (hP5 : P ≤ 5) (hd : i + j + d + 1 = 2 * P) (hk0 : k = 0 ∨ i < P ∨ j < P) (c0 : s_won P k i j = 0) (hI : g_In w (g_U w k) P k 0 0 fc fl) : b_X6_weight_86 x1 x2 (nI p) s0 r (nI P) (lN (g_U w k)) fc fl bg bs wn pl tr = some (lN ((if p = 0 then h_V w P k 0 (d + 2) (i + 1) j - h_V w P k 0 (d + 2) i (j + 1) else h_B w) / Nat.gcd (h_V w P k 0 (d + 2) (i + 1) j - h_V w P k 0 (d + 2) i (j + 1)) (h_B w)), nI P, lN (g_U w k), fc, fl) := by
  obtain ⟨h1, h2⟩ := g_in c0 (by omega)
  have hk1 := i_w c0 (by omega) hk0
  obtain ⟨v1, v2, v3⟩ := j_w hw hP1 hP5 hd hk0 c0
  obtain ⟨b1, b2⟩ := j_b (k := k) (d := d) hw (by omega)
  have hC := j_C (k := k) (x := 0) hw (by decide) hP1 hP5 (show (i + 1) + j + d = 2 * P by omega) (by omega)
  obtain ⟨B1, B2, B3⟩ := i_Bp w hw
  unfold b_X6_weight_86
  rw [e1, e2]
  refine Eq.trans (p_b1 (l_wAt r fc fl hP5 hd h1 h2 hI _ _)) ?_
  rw [lN_sub v1, nI_1]
  refine Eq.trans (p_b1 (g_bottom hP5 (by omega) r fc fl)) ?_
  rw [show 2 * P - (i + 1) - j = d by omega]
  refine Eq.trans (p_b1 (i_least6 (by omega) b2 b1 hp)) ?_
  rw [j_eq v3 B1 b1]
theorem z_weight (x1 x2 x3 x4 : Int32) (h : z_I r wn pl tr tc mr pd mp ta fs) : ∃ (v : Int64) (to' : Int32) (un' : Int64) (fc' : (Nat → Int64)) (fl' : (Nat → Int64)) (th' : Int32) (ch' : (Nat → Int64)) (la' : (Nat → Int64)) (be' : Int64), f_X6_weight x1 x2 x3 x4 r to un fc fl bg bs wn pl tr = some (v, to', un', fc', fl') ∧ f_X7_weight x1 x2 x3 x4 th tc mr pd mp ch la be se ta fs = some (v, th', ch', la', be') ∧ z_I r wn pl tr tc mr pd mp ta fs := by
  obtain ⟨htr, a, b, P, G, S, hh, k, n, bits, hok, hr, hm, hn, hpd, hb, hl, hpl, hta⟩ := id h
  obtain ⟨r0, r1, r2, r3, r4, r5, r6⟩ := hr
  obtain ⟨m0, m1, m2, m3, m4, m5, m6⟩ := hm
  obtain ⟨o1, o2, o3, o4, o5, o6, o7, o8, o9, o10, o11, o12⟩ := hok
  rcases j_ask r to un fc fl bg bs wn pl tr 0 tc mr pd mp ch la be se ta fs x1 x2 x3 x4 r2 r6 m2 m6 o6 o12 with ⟨h7, h6⟩ | ⟨i, j, sv, p, hi, hj, hsv, hp, e1, e2, e3, e4, hk0, h7, h6⟩
  · refine ⟨-1000000000000000000, to, un, fc, fl, 0, ch, la, be, ?_, ?_, h⟩
    · unfold f_X6_weight
      exact h6 _ _
    · unfold f_X7_weight
      exact p_b1 h7
  have hgw : f_X5_gameWinner (r 6) x1 x2 r = some (nI (s_won P k i j)) := by rw [r6, e1, e2]; exact p_gw r r2 o5 o6 o12 (by omega) (by omega)
  have hwo : f_X7_wonOf (mr 6) x1 x2 0 tc mr pd mp ch la be se ta fs = some (nI (s_won P k i j)) := by rw [m6, e1, e2]; exact p_wo 0 tc mr pd mp ch la be se ta fs m2 o5 o6 o12 (by omega) (by omega)
  have hw2 := g_won2 P k i j
  by_cases c0 : s_won P k i j = 0
  · obtain ⟨w, hw, q1, q2⟩ := j_sv r mr o1 o2 o3 o4 r0 r1 m0 m1 hsv
    obtain ⟨fc', fl', g1, g2⟩ := g_reckon q1 r2 r6 (show w ≤ 9 by omega) o5 o6 o12 to un fc fl
    obtain ⟨ch', la', w1, w2⟩ := h_works 0 tc mr pd mp se ta fs hsv q2 m2 m6 (show w ≤ 9 by omega) o5 o6 o12 ch la be
    obtain ⟨B1, B2, B3⟩ := i_Bp w hw
    have hv1 := (w2 (i + 1) j (by omega) (by omega) (by omega) (by omega)).1
    have hv2 := (w2 i (j + 1) (by omega) (by omega) (by omega) (by omega)).1
    have fin : ∀ (i' j' d : Nat), i' + j' + d + 1 = 2 * P → (k = 0 ∨ i' < P ∨ j' < P) → s_won P k i' j' = 0 → ch' (7 * (i + 1) + j) = lN (h_V w P k 0 (d + 2) (i' + 1) j') → ch' (7 * i + (j + 1)) = lN (h_V w P k 0 (d + 2) i' (j' + 1)) → (if x1 = r 2 then (if x2 = r 2 then b_X6_weight_86 x1 x2 x4 1 r (nI P) (lN (g_U w k)) fc' fl' bg bs wn pl tr else b_X6_weight_85 x1 x2 x4 r (nI P) (lN (g_U w k)) fc' fl' bg bs wn pl tr) else b_X6_weight_85 x1 x2 x4 r (nI P) (lN (g_U w k)) fc' fl' bg bs wn pl tr) = some (lN ((if p = 0 then h_V w P k 0 (d + 2) (i' + 1) j' - h_V w P k 0 (d + 2) i' (j' + 1) else h_B w) / Nat.gcd (h_V w P k 0 (d + 2) (i' + 1) j' - h_V w P k 0 (d + 2) i' (j' + 1)) (h_B w)), nI P, lN (g_U w k), fc', fl') → ∃ (v : Int64) (to' : Int32) (un' : Int64) (fc' : (Nat → Int64)) (fl' : (Nat → Int64)) (th' : Int32) (ch' : (Nat → Int64)) (la' : (Nat → Int64)) (be' : Int64), f_X6_weight x1 x2 x3 x4 r to un fc fl bg bs wn pl tr = some (v, to', un', fc', fl') ∧ f_X7_weight x1 x2 x3 x4 th tc mr pd mp ch la be se ta fs = some (v, th', ch', la', be') ∧ z_I r wn pl tr tc mr pd mp ta fs := by
      intro i' j' d hd hk' c0' a1 a2 hcl
      obtain ⟨v1, v2, v3⟩ := j_w hw o5 o6 hd hk' c0'
      have hR : h_V w P k 0 (d + 2) (i' + 1) j' ≤ 13000000000000 := Nat.le_trans (h_V9 (by omega) (by omega) _ _ _) (by omega)
      refine ⟨lN ((if p = 0 then h_V w P k 0 (d + 2) (i' + 1) j' - h_V w P k 0 (d + 2) i' (j' + 1) else h_B w) / Nat.gcd (h_V w P k 0 (d + 2) (i' + 1) j' - h_V w P k 0 (d + 2) i' (j' + 1)) (h_B w)), nI P, lN (g_U w k), fc', fl', 0, ch', la', lN (h_B w), ?_, ?_, h⟩
      · unfold f_X6_weight
        refine Eq.trans (h6 _ _) ?_
        refine Eq.trans (p_b1 hgw) ?_
        rw [c0, if_pos (show nI 0 = (0 : Int32) from rfl), e3]
        exact Eq.trans (p_b4 g1) hcl
      · unfold f_X7_weight
        refine Eq.trans (p_b1 h7) ?_
        rw [if_neg (show ¬ (1 : Int32) = 0 by decide)]
        refine Eq.trans (p_b1 hwo) ?_
        rw [c0, if_pos (show nI 0 ≤ (0 : Int32) by decide), e1, e2, e3, e4]
        refine Eq.trans (p_b3 w1) ?_
        rw [show (7 : Int32) * nI i + 7 + nI j = nI (7 * (i + 1) + j) from by rw [show (7 : Int32) * nI i = nI (7 * i) from pk_mul 7 i, show nI (7 * i) + 7 = nI (7 * i + 7) from nI_add _ 7, nI_add, show 7 * (i + 1) = 7 * i + 7 by omega], j_ix, nI_1, show 7 * i + j + 1 = 7 * i + (j + 1) by omega, if_neg (p_gd (show 7 * (i + 1) + j < 49 by omega) (by decide)), if_neg (p_gd (show 7 * i + (j + 1) < 49 by omega) (by decide)), p_cl (by omega), p_cl (by omega), a1, a2, lN_sub v2]
        exact p_b1 (i_part 0 tc mr pd mp ch' la' se ta fs (by omega) (by omega) B1 hp)
    by_cases cP : i = P ∧ j = P
    · obtain ⟨ei, ej⟩ := cP
      have hk : k = 0 := by omega
      have w3 : s_won P k P (P - 1) = 0 := by
        unfold s_won
        repeat' split
        all_goals omega
      have w4 : s_won P k (P - 1) P = 0 := by
        unfold s_won
        repeat' split
        all_goals omega
      have w5 : s_won P k (P - 1) (P - 1) = 0 := by
        unfold s_won
        repeat' split
        all_goals omega
      have w6 : s_won P k (P + 1) P = 0 := by
        unfold s_won
        repeat' split
        all_goals omega
      have w7 : s_won P k P (P + 1) = 0 := by
        unfold s_won
        repeat' split
        all_goals omega
      refine fin (P - 1) (P - 1) 1 (by omega) (by omega) w5 ?_ ?_ ?_
      · rw [hv1, ei, ej, show P - 1 + 1 = P by omega, h_Vc w6 (by omega), h_Vc w3 (by omega), i_Fg (by omega), i_Fg (by omega)]
      · rw [hv2, ei, ej, show P - 1 + 1 = P by omega, h_Vc w7 (by omega), h_Vc w4 (by omega), i_Fl (by omega), i_Fl (by omega)]
      · rw [e1, e2, e4, r2, ei, ej, if_pos rfl, if_pos rfl]
        exact l_86 r fc' fl' bg bs wn pl tr _ _ _ (pk_sub (b := 1) o5) (pk_sub (b := 1) o5) hw hp o5 o6 (by omega) (by omega) w5 g2
    · obtain ⟨d, hd⟩ : ∃ d, d = 2 * P - 1 - i - j := ⟨_, rfl⟩
      rw [show 2 * P + 2 - (i + 1) - j = d + 2 by omega] at hv1
      rw [show 2 * P + 2 - i - (j + 1) = d + 2 by omega] at hv2
      refine fin i j d (by omega) hk0 c0 hv1 hv2 ?_
      have h85 : b_X6_weight_85 x1 x2 x4 r (nI P) (lN (g_U w k)) fc' fl' bg bs wn pl tr = some (lN ((if p = 0 then h_V w P k 0 (d + 2) (i + 1) j - h_V w P k 0 (d + 2) i (j + 1) else h_B w) / Nat.gcd (h_V w P k 0 (d + 2) (i + 1) j - h_V w P k 0 (d + 2) i (j + 1)) (h_B w)), nI P, lN (g_U w k), fc', fl') := by
        unfold b_X6_weight_85
        rw [e4]
        exact l_86 r fc' fl' bg bs wn pl tr _ _ _ (by rw [e1]; exact pk_sub (b := 0) (Nat.zero_le _)) (by rw [e2]; exact pk_sub (b := 0) (Nat.zero_le _)) hw hp o5 o6 (by omega) hk0 c0 g2
      by_cases ci : i = P
      · rw [if_pos (show x1 = r 2 by rw [e1, r2, ci]), if_neg (show ¬ x2 = r 2 by rw [e2, r2]; exact fun z => cP ⟨ci, (nI_eq (by omega) (by omega)).mp z⟩)]
        exact h85
      · rw [if_neg (show ¬ x1 = r 2 by rw [e1, r2]; exact fun z => ci ((nI_eq (by omega) (by omega)).mp z))]
        exact h85
  · refine ⟨-1000000000000000000, to, un, fc, fl, 0, ch, la, be, ?_, ?_, h⟩
    · unfold f_X6_weight
      refine Eq.trans (h6 _ _) ?_
      refine Eq.trans (p_b1 hgw) ?_
      rw [if_neg (show ¬ nI (s_won P k i j) = 0 from fun z => c0 ((nI_eq (b := 0) (by omega) (by decide)).mp z))]
    · unfold f_X7_weight
      refine Eq.trans (p_b1 h7) ?_
      rw [if_neg (show ¬ (1 : Int32) = 0 by decide)]
      refine Eq.trans (p_b1 hwo) ?_
      rw [if_neg (show ¬ nI (s_won P k i j) ≤ 0 from nI_nle (by omega) (by omega))]
end LW
