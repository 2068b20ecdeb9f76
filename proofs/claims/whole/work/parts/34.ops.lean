/-! The calls of rules and play: class and reference answer alike. -/
theorem p_cong {P G h k : Nat} {b1 b2 : Nat → Nat} : ∀ n : Nat, (∀ j, j < n → b1 j = b2 j) → s_play P G h k b1 n = s_play P G h k b2 n
  | 0, _ => rfl
  | n + 1, e => by
    show s_step P G h k (b1 n) (s_play P G h k b1 n) = s_step P G h k (b2 n) (s_play P G h k b2 n)
    rw [p_cong n (fun j hj => e j (Nat.lt_succ_of_lt hj)), e n (Nat.lt_succ_self n)]
/-- never both have all sets -/
def s_end (S : Nat) : s_S → Prop
  | (_, _, _, _, u, v, _, _, _, _, _, _) => u ≤ S ∧ v ≤ S ∧ (u < S ∨ v < S)
theorem p_endGameOK {G S w : Nat} {z : s_S} (hw : w ≤ 1) (hl : s_live S z) : s_end S (s_game G w z) := by
  obtain ⟨p, q, x, y, u, v, aw, al, bw, bl, f, sv⟩ := z
  obtain ⟨l1, l2⟩ := hl
  unfold s_game
  dsimp only
  split
  · show u + (1 - w) ≤ S ∧ v + w ≤ S ∧ (u + (1 - w) < S ∨ v + w < S)
    omega
  · show u ≤ S ∧ v ≤ S ∧ (u < S ∨ v < S)
    omega
theorem p_endOK {P G S h k : Nat} {bits : Nat → Nat} (hS : 1 ≤ S) : ∀ n : Nat, (∀ j, j < n → bits j ≤ 1) → (∀ j, j < n → s_live S (s_play P G h k bits j)) → s_end S (s_play P G h k bits n)
  | 0, _, _ => by show 0 ≤ S ∧ 0 ≤ S ∧ (0 < S ∨ 0 < S); omega
  | n + 1, hb, hl => by
    have hw := hb n (Nat.lt_succ_self n)
    have hl1 := hl n (Nat.lt_succ_self n)
    show s_end S (s_step P G h k (bits n) (s_play P G h k bits n))
    generalize s_play P G h k bits n = z at hl1 ⊢
    obtain ⟨p, q, x, y, u, v, aw, al, bw, bl, f, sv⟩ := z
    unfold s_step
    dsimp only
    split
    · show u ≤ S ∧ v ≤ S ∧ (u < S ∨ v < S)
      have := hl1.1
      have := hl1.2
      omega
    · refine p_endGameOK ?_ hl1
      have := p_won2 P k (p + (1 - bits n) + s_hs h sv) (q + bits n)
      omega
/-- who won the match, by the class -/
theorem p_mw (r wn : Nat → Int32) {S n p q x y u v aw al bw bl f sv : Nat} (h4 : r 4 = nI S) (hS : S ≤ 3) (he : s_end S (p, q, x, y, u, v, aw, al, bw, bl, f, sv)) : f_X4_matchWinner r wn (s_pl n (p, q, x, y, u, v, aw, al, bw, bl, f, sv)) = some (if u = S then 0 else if v = S then 1 else -9) := by
  obtain ⟨e1, e2, e3⟩ := he
  unfold f_X4_matchWinner
  refine Eq.trans (p_b1 (show f_X5_matchWinner ((s_pl n (p, q, x, y, u, v, aw, al, bw, bl, f, sv)) 4) ((s_pl n (p, q, x, y, u, v, aw, al, bw, bl, f, sv)) 5) r = _ from p_matchW r h4 hS (u := u) (v := v) (by omega) (by omega))) ?_
  by_cases c1 : u = S
  · rw [if_pos (show S ≤ u ∨ S ≤ v by omega), p_lead1 (show v < u by omega), if_pos c1]
    rfl
  · by_cases c2 : v = S
    · rw [if_pos (show S ≤ u ∨ S ≤ v by omega), p_lead2 (show u < v by omega), if_neg c1, if_pos c2]
      rfl
    · rw [if_neg (show ¬ (S ≤ u ∨ S ≤ v) by omega), if_neg c1, if_neg c2]
      rfl
theorem p_ne {x : Int32} {a n : Int32} (h : f_X7_in x a n = some 0) (c : Int32) (hc : f_X7_in c a n = some 1) : ¬ x = c := fun q => by rw [q, hc] at h; cases h
section POPS
variable (r : Nat → Int32) (to : Int32) (un : Int64) (fc fl bg bs : Nat → Int64) (wn pl : Nat → Int32) (tr : Int64) (th : Int32) (tc : Int64) (mr : Nat → Int32) (pd : Int32) (mp : Nat → Int32) (ch la : Nat → Int64) (be : Int64) (se : Nat → Int64) (ta : Nat → Int32) (fs : Int32)
theorem z_trace (h : z_I r wn pl tr tc mr pd mp ta fs) : ∃ (v : Int64) (th' : Int32), f_X6_trace r to un fc fl bg bs wn pl tr = some v ∧ f_X7_trace th tc mr pd mp ch la be se ta fs = some (v, th') ∧ z_I r wn pl tr tc mr pd mp ta fs :=
  ⟨tr, 0, rfl, by rw [h.1]; rfl, h⟩
theorem z_count (x1 : Int32) (h : z_I r wn pl tr tc mr pd mp ta fs) : ∃ (v : Int32) (th' : Int32), f_X6_count x1 r to un fc fl bg bs wn pl tr = some v ∧ f_X7_count x1 th tc mr pd mp ch la be se ta fs = some (v, th') ∧ z_I r wn pl tr tc mr pd mp ta fs := by
  obtain ⟨-, a, b, P, G, S, hh, k, n, bits, hok, hr, hm, -⟩ := id h
  obtain ⟨r0, r1, r2, r3, r4, r5, r6⟩ := hr
  obtain ⟨m0, m1, m2, m3, m4, m5, m6⟩ := hm
  rcases p_within x1 (a := 0) (n := 6) (by decide) (by decide) with ⟨-, hi⟩ | ⟨j, -, hj, e, -, hi⟩
  · refine ⟨-1, 0, ?_, ?_, h⟩
    · unfold f_X6_count f_X5_told
      rw [if_neg (p_ne hi 0 (by decide)), if_neg (p_ne hi 1 (by decide)), if_neg (p_ne hi 2 (by decide)), if_neg (p_ne hi 3 (by decide)), if_neg (p_ne hi 4 (by decide)), if_neg (p_ne hi 5 (by decide)), if_neg (p_ne hi 6 (by decide))]
      rfl
    · unfold f_X7_count
      exact p_b1 (show f_X7_in x1 0 6 = some 0 from hi)
  · subst e
    have hg := p_gd (n := j) (N := 7) (by omega) (by decide)
    refine ⟨mr j, 0, ?_, ?_, h⟩
    · rcases (show j = 0 ∨ j = 1 ∨ j = 2 ∨ j = 3 ∨ j = 4 ∨ j = 5 ∨ j = 6 by omega) with rfl | rfl | rfl | rfl | rfl | rfl | rfl
      · rw [m0, ← r0]; rfl
      · rw [m1, ← r1]; rfl
      · rw [m2, ← r2]; rfl
      · rw [m3, ← r3]; rfl
      · rw [m4, ← r4]; rfl
      · rw [m5, ← r5]; rfl
      · rw [m6, ← r6]; rfl
    · unfold f_X7_count
      refine Eq.trans (p_b1 (show f_X7_in (nI j) 0 6 = some 1 from hi)) ?_
      rw [if_neg (show ¬ (1 : Int32) = 0 by decide), if_neg hg, p_cl (by omega)]
theorem z_score (x1 : Int32) (h : z_I r wn pl tr tc mr pd mp ta fs) : ∃ (v : Int32) (th' : Int32), f_X6_score x1 r to un fc fl bg bs wn pl tr = some v ∧ f_X7_score x1 th tc mr pd mp ch la be se ta fs = some (v, th') ∧ z_I r wn pl tr tc mr pd mp ta fs := by
  obtain ⟨-, a, b, P, G, S, hh, k, n, bits, hok, hr, hm, hn, hpd, hb, hl, hpl, hta⟩ := id h
  obtain ⟨r0, r1, r2, r3, r4, r5, r6⟩ := hr
  obtain ⟨o1, o2, o3, o4, o5, o6, o7, o8, o9, o10, o11, o12⟩ := hok
  rcases p_within x1 (a := 0) (n := 12) (by decide) (by decide) with ⟨hi6, hi⟩ | ⟨j, -, hj, e, hi6, hi⟩
  · refine ⟨-1, 0, ?_, ?_, h⟩
    · unfold f_X6_score
      exact p_b1 (show f_X6_within x1 0 12 = some 0 from hi6)
    · unfold f_X7_score
      exact p_b1 (show f_X7_in x1 0 12 = some 0 from hi)
  · subst e
    have hend := p_endOK (P := P) (G := G) (h := hh) (k := k) (bits := bits) o9 n (fun i hi => (hb i hi).1) hl
    have hwf := p_wf (P := P) (h := hh) (k := k) (bits := bits) o7 o8 o10 n (fun i hi => (hb i hi).1) hl
    have hg := p_gd (n := j) (N := 13) (by omega) (by decide)
    refine ⟨ta j, 0, ?_, ?_, h⟩
    · unfold f_X6_score
      refine Eq.trans (p_b1 (show f_X6_within (nI j) 0 12 = some 1 from hi6)) ?_
      rw [if_neg (show ¬ (1 : Int32) = 0 by decide)]
      suffices hs : f_X4_told (nI j) r wn pl = some (ta j) from p_b1 hs
      rw [hpl]
      generalize s_play P G hh k bits n = z at hta hend hwf ⊢
      obtain ⟨p, q, x, y, u, v, aw, al, bw, bl, f, sv⟩ := z
      obtain ⟨t0, t1, t2, t3, t4, t5, t6, t7, t8, t9, t10, t11, t12, tf⟩ := hta
      obtain ⟨w1, w2, w3, w4, w5, w6, w7, w8, w9, w10, w11, w12, w13⟩ := hwf
      rcases (show j = 0 ∨ j = 1 ∨ j = 2 ∨ j = 3 ∨ j = 4 ∨ j = 5 ∨ j = 6 ∨ j = 7 ∨ j = 8 ∨ j = 9 ∨ j = 10 ∨ j = 11 ∨ j = 12 by omega) with rfl | rfl | rfl | rfl | rfl | rfl | rfl | rfl | rfl | rfl | rfl | rfl | rfl
      · rw [t0]; exact p_b1 (p_pointsOfA r wn r5 w13)
      · rw [t1]; rfl
      · rw [t2]; rfl
      · rw [t3]; rfl
      · rw [t4]; rfl
      · rw [t5]; rfl
      · rw [t6]; rfl
      · rw [t7]; rfl
      · rw [t8]; rfl
      · rw [t9]; rfl
      · rw [t10]; rfl
      · rw [t11]; rfl
      · rw [t12]; exact p_b1 (p_mw r wn r4 o10 hend)
    · unfold f_X7_score
      refine Eq.trans (p_b1 (show f_X7_in (nI j) 0 12 = some 1 from hi)) ?_
      rw [if_neg (show ¬ (1 : Int32) = 0 by decide), if_neg hg, p_cl (by omega)]
theorem z_won (x1 x2 x3 : Int32) (h : z_I r wn pl tr tc mr pd mp ta fs) : ∃ (v : Int32) (tr' : Int64) (th' : Int32) (tc' : Int64), f_X6_won x1 x2 x3 r to un fc fl bg bs wn pl tr = some (v, tr') ∧ f_X7_won x1 x2 x3 th tc mr pd mp ch la be se ta fs = some (v, th', tc') ∧ z_I r wn pl tr' tc' mr pd mp ta fs := by
  obtain ⟨htr, a, b, P, G, S, hh, k, n, bits, hok, hr, hm, hrest⟩ := id h
  have hok0 := hok
  obtain ⟨o1, o2, o3, o4, o5, o6, o7, o8, o9, o10, o11, o12⟩ := hok
  have r2 := hr.2.2.1
  have m2 := hm.2.2.1
  rcases p_within x1 (a := 0) (n := 2) (by decide) (by decide) with ⟨h6, h7⟩ | ⟨k1, -, hk1, e1, h6, h7⟩
  · refine ⟨-1, tr, 0, tc, ?_, ?_, h⟩
    · unfold f_X6_won
      exact p_b1 (show f_X6_within x1 0 2 = some 0 from h6)
    · unfold f_X7_won
      exact p_b1 (show f_X7_in x1 0 2 = some 0 from h7)
  rcases p_within x2 (a := 0) (n := 20) (by decide) (by decide) with ⟨i6, i7⟩ | ⟨i, -, hi, e2, i6, i7⟩
  · refine ⟨-1, tr, 0, tc, ?_, ?_, h⟩
    · unfold f_X6_won
      refine Eq.trans (p_b1 (show f_X6_within x1 0 2 = some 1 from h6)) ?_
      rw [if_neg (show ¬ (1 : Int32) = 0 by decide)]
      exact p_b1 (show f_X6_within x2 0 20 = some 0 from i6)
    · unfold f_X7_won
      refine Eq.trans (p_b1 (show f_X7_in x1 0 2 = some 1 from h7)) ?_
      rw [if_neg (show ¬ (1 : Int32) = 0 by decide)]
      exact p_b1 (show f_X7_in x2 0 20 = some 0 from i7)
  rcases p_within x3 (a := 0) (n := 20) (by decide) (by decide) with ⟨j6, j7⟩ | ⟨j, -, hj, e3, j6, j7⟩
  · refine ⟨-1, tr, 0, tc, ?_, ?_, h⟩
    · unfold f_X6_won
      refine Eq.trans (p_b1 (show f_X6_within x1 0 2 = some 1 from h6)) ?_
      rw [if_neg (show ¬ (1 : Int32) = 0 by decide)]
      refine Eq.trans (p_b1 (show f_X6_within x2 0 20 = some 1 from i6)) ?_
      rw [if_neg (show ¬ (1 : Int32) = 0 by decide)]
      exact p_b1 (show f_X6_within x3 0 20 = some 0 from j6)
    · unfold f_X7_won
      refine Eq.trans (p_b1 (show f_X7_in x1 0 2 = some 1 from h7)) ?_
      rw [if_neg (show ¬ (1 : Int32) = 0 by decide)]
      refine Eq.trans (p_b1 (show f_X7_in x2 0 20 = some 1 from i7)) ?_
      rw [if_neg (show ¬ (1 : Int32) = 0 by decide)]
      exact p_b1 (show f_X7_in x3 0 20 = some 0 from j7)
  have hgw : f_X5_gameWinner x1 x2 x3 r = some (nI (s_won P k1 i j)) := by rw [e1, e2, e3]; exact p_gw r r2 o5 o6 hk1 (by omega) (by omega)
  have hwo : ∀ tc' : Int64, f_X7_wonOf x1 x2 x3 0 tc' mr pd mp ch la be se ta fs = some (nI (s_won P k1 i j)) := by intro tc'; rw [e1, e2, e3]; exact p_wo 0 tc' mr pd mp ch la be se ta fs m2 o5 o6 hk1 (by omega) (by omega)
  have hI : ∀ d : Int64, z_I r wn pl (tr + d) (tc + d) mr pd mp ta fs := fun d => ⟨by rw [htr], a, b, P, G, S, hh, k, n, bits, hok0, hr, hm, hrest⟩
  have hA : ∀ d : Int32, f_X6_asked x1 = some d → f_X6_won x1 x2 x3 r to un fc fl bg bs wn pl tr = some (nI (s_won P k1 i j), tr + Int32.toInt64 d) := by
    intro d hd
    unfold f_X6_won
    refine Eq.trans (p_b1 (show f_X6_within x1 0 2 = some 1 from h6)) ?_
    rw [if_neg (show ¬ (1 : Int32) = 0 by decide)]
    refine Eq.trans (p_b1 (show f_X6_within x2 0 20 = some 1 from i6)) ?_
    rw [if_neg (show ¬ (1 : Int32) = 0 by decide)]
    refine Eq.trans (p_b1 (show f_X6_within x3 0 20 = some 1 from j6)) ?_
    rw [if_neg (show ¬ (1 : Int32) = 0 by decide)]
    refine Eq.trans (p_b1 hd) ?_
    exact p_b1 hgw
  have hB : f_X7_won x1 x2 x3 th tc mr pd mp ch la be se ta fs = (if x1 = 0 then b_X7_won_63 x1 x2 x3 1 tc 0 tc mr pd mp ch la be se ta fs else if x1 = 1 then b_X7_won_63 x1 x2 x3 11 tc 0 tc mr pd mp ch la be se ta fs else b_X7_won_63 x1 x2 x3 111 tc 0 tc mr pd mp ch la be se ta fs) := by
    unfold f_X7_won
    refine Eq.trans (p_b1 (show f_X7_in x1 0 2 = some 1 from h7)) ?_
    rw [if_neg (show ¬ (1 : Int32) = 0 by decide)]
    refine Eq.trans (p_b1 (show f_X7_in x2 0 20 = some 1 from i7)) ?_
    rw [if_neg (show ¬ (1 : Int32) = 0 by decide)]
    refine Eq.trans (p_b1 (show f_X7_in x3 0 20 = some 1 from j7)) ?_
    rw [if_neg (show ¬ (1 : Int32) = 0 by decide)]
  have h63 : ∀ d : Int64, b_X7_won_63 x1 x2 x3 d tc 0 tc mr pd mp ch la be se ta fs = some (nI (s_won P k1 i j), 0, tc + d) := by
    intro d
    unfold b_X7_won_63
    exact p_b1 (hwo (tc + d))
  rw [hB, h63, h63, h63]
  rcases (show k1 = 0 ∨ k1 = 1 ∨ k1 = 2 by omega) with e | e | e
  · have ex : x1 = 0 := by rw [e1, e]; rfl
    rw [if_pos ex]
    exact ⟨_, _, 0, _, hA 1 (by rw [ex]; rfl), rfl, hI 1⟩
  · have ex : x1 = 1 := by rw [e1, e]; rfl
    rw [if_neg (show ¬ x1 = 0 by rw [ex]; decide), if_pos ex]
    exact ⟨_, _, 0, _, hA 11 (by rw [ex]; rfl), rfl, hI 11⟩
  · have ex : x1 = 2 := by rw [e1, e]; rfl
    rw [if_neg (show ¬ x1 = 0 by rw [ex]; decide), if_neg (show ¬ x1 = 1 by rw [ex]; decide)]
    exact ⟨_, _, 0, _, hA 111 (by rw [ex]; rfl), rfl, hI 111⟩
end POPS
