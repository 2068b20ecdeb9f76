/-! the class's rows of a match -/
def x_In (S qa qb x0 y0 s0 i j : Nat) (bs : Nat → Int64) : Prop :=
  ∀ x y : Nat, x ≤ S → y ≤ S → x + y ≤ 2 * S - 1 → x0 ≤ x → y0 ≤ y → (i < x ∨ (x = i ∧ j ≤ y)) → bs (4 * x + y) = lN (w_M S qa qb (2 * S - 1 - x - y) x y ((s0 + x - x0 + y - y0) % 2))
section XS
variable (r : Nat → Int32) (bg : Nat → Int64)
theorem x_score {S qa qb x0 y0 s0 i j c : Nat} (hS : S ≤ 3) (hS1 : 1 ≤ S) (hx : x0 ≤ i) (hy : y0 ≤ j) (hi : i ≤ S) (hj : j ≤ S) (hs : s0 ≤ 1) (hqa : qa ≤ 1000000) (hqb : qb ≤ 1000000) (bs : Nat → Int64) (hI : x_In S qa qb x0 y0 s0 i (j + 1) bs) (hc : c = if (s0 + i - x0 + j - y0) % 2 = 0 then qa else qb) : ∃ v : Int64, f_X2_ofScore (nI i) (nI j) (nI (if S ≤ i ∨ S ≤ j then s_lead i j else 0)) (lN c) 4 16 bs = some v ∧ (i + j ≤ 2 * S - 1 → v = lN (w_M S qa qb (2 * S - 1 - i - j) i j ((s0 + i - x0 + j - y0) % 2))) := by
  have hcc : c ≤ 1000000 := by
    rw [hc]
    split <;> assumption
  have n10 : ¬ nI 1 = 0 := by decide
  have n20 : ¬ nI 2 = 0 := by decide
  unfold f_X2_ofScore
  by_cases w3 : S ≤ i ∨ S ≤ j
  · rw [if_pos w3]
    by_cases c1 : j < i
    · refine ⟨1000000, ?_, fun _ => ?_⟩
      · rw [show s_lead i j = 1 from by unfold s_lead; rw [if_pos (by omega)], if_neg n10, if_pos (show nI 1 = 1 from rfl)]
      · rw [w_1 (show i = S by omega)]
        rfl
    · by_cases c2 : i < j
      · refine ⟨0, ?_, fun _ => ?_⟩
        · rw [show s_lead i j = 2 from by unfold s_lead; rw [if_neg (by omega), if_pos (by omega)], if_neg n20, if_neg (show ¬ nI 2 = 1 by decide)]
        · rw [w_2 (show ¬ i = S by omega) (show j = S by omega)]
          rfl
      · obtain ⟨v1, e1⟩ := o_any (i := i + 1) (j := j) (s := 4) (n := 16) (by omega) (by omega) (by decide) rfl bs
        obtain ⟨v2, e2⟩ := o_any (i := i) (j := j + 1) (s := 4) (n := 16) (by omega) (by omega) (by decide) rfl bs
        refine ⟨(lN c * v1 + (1000000 - lN c) * v2) / 1000000, ?_, fun z => absurd z (by omega)⟩
        · rw [show s_lead i j = 0 from by unfold s_lead; rw [if_neg c1, if_neg c2], if_pos (show nI 0 = 0 from rfl), nI_1, nI_1]
          refine Eq.trans (p_b1 e1) ?_
          exact p_b1 e2
  · have a1 := hI (i + 1) j (by omega) (by omega) (by omega) (by omega) (by omega) (by omega)
    have a2 := hI i (j + 1) (by omega) (by omega) (by omega) (by omega) (by omega) (by omega)
    rw [if_neg w3, if_pos (show nI 0 = 0 from rfl), nI_1, nI_1]
    refine ⟨_, Eq.trans (p_b1 (show f_X1_at (nI (i + 1)) (nI j) 4 16 bs = _ from g_at (s := 4) (by omega) (by omega) (by decide) rfl bs)) (p_b1 (show f_X1_at (nI i) (nI (j + 1)) 4 16 bs = _ from g_at (s := 4) (by omega) (by omega) (by decide) rfl bs)), fun _ => ?_⟩
    obtain ⟨d, hd⟩ : ∃ d, 2 * S - 1 - i - j = d + 1 := ⟨2 * S - 1 - i - j - 1, by omega⟩
    rw [a1, a2, show 2 * S - 1 - (i + 1) - j = d by omega, show 2 * S - 1 - i - (j + 1) = d by omega, hd, w_s (show ¬ i = S by omega) (show ¬ j = S by omega), ← hc, show (s0 + (i + 1) - x0 + j - y0) % 2 = 1 - (s0 + i - x0 + j - y0) % 2 by omega, show (s0 + i - x0 + (j + 1) - y0) % 2 = 1 - (s0 + i - x0 + j - y0) % 2 by omega]
    exact v_lmix hcc (w_le hqa hqb _ _ _ _) (w_le hqa hqb _ _ _ _)
theorem x_step (KK : (Int32 × (Nat → Int64)) → Option (Int32 × (Nat → Int64))) {S qa qb x0 y0 s0 i j : Nat} (r4 : r 4 = nI S) (hS : S ≤ 3) (hS1 : 1 ≤ S) (hx : x0 ≤ i) (hy : y0 ≤ j) (hi : i ≤ S) (hj : j ≤ S) (hs : s0 ≤ 1) (hqa : qa ≤ 1000000) (hqb : qb ≤ 1000000) (bs : Nat → Int64) (hI : x_In S qa qb x0 y0 s0 i (j + 1) bs) : ∃ bs' : Nat → Int64, b_X2_ofMatch_50 KK (nI x0) (nI y0) (nI s0) (lN qa) (lN qb) (nI i) (nI j) r bg bs = KK (nI j + (-1), bs') ∧ x_In S qa qb x0 y0 s0 i j bs' := by
  obtain ⟨c, hc⟩ : ∃ c, c = if (s0 + i - x0 + j - y0) % 2 = 0 then qa else qb := ⟨_, rfl⟩
  obtain ⟨v, hv1, hv2⟩ := x_score hS hS1 hx hy hi hj hs hqa hqb bs hI hc
  have h91 : b_X2_ofMatch_91 KK (nI x0) (nI y0) (nI s0) (lN qa) (lN qb) (nI i) (nI j) (lN c) r bg bs = KK (nI j + (-1), vp_updL bs (4 * i + j) v) := by
    unfold b_X2_ofMatch_91
    refine Eq.trans (p_b1 (p_matchW r r4 hS (show i ≤ 1000 by omega) (show j ≤ 1000 by omega))) ?_
    refine Eq.trans (p_b1 hv1) ?_
    exact p_b1 (show f_X1_put (nI i) (nI j) v 4 16 bs = _ from g_puts (s := 4) (by omega) (by omega) (by decide) rfl v bs)
  refine ⟨vp_updL bs (4 * i + j) v, ?_, ?_⟩
  · unfold b_X2_ofMatch_50 b_X2_ofMatch_77
    rw [if_neg (nI_nlt hy (by omega)), o_par hs hx hy (by omega) (by omega)]
    by_cases cp : (s0 + i - x0 + j - y0) % 2 = 0
    · rw [if_pos (show nI ((s0 + i - x0 + j - y0) % 2) = 0 by rw [cp]; rfl), if_neg (show ¬ (1 : Int32) = 0 by decide)]
      rw [if_pos cp] at hc
      rw [← hc]
      rw [← hc] at h91
      exact h91
    · rw [if_neg (show ¬ nI ((s0 + i - x0 + j - y0) % 2) = 0 from fun z => cp ((nI_eq (b := 0) (by omega) (by decide)).mp z)), if_pos (show (0 : Int32) = 0 from rfl)]
      rw [if_neg cp] at hc
      rw [← hc]
      rw [← hc] at h91
      exact h91
  · intro x y h1 h2 h3 h4 h5 h6
    by_cases ee : x = i ∧ y = j
    · obtain ⟨e1, e2⟩ := ee
      rw [e1, e2, pk_uLs]
      exact hv2 (by omega)
    · rw [pk_uLn (show 4 * x + y ≠ 4 * i + j by omega)]
      exact hI x y h1 h2 h3 h4 h5 (by omega)
theorem x_inner {S qa qb x0 y0 s0 i : Nat} (r4 : r 4 = nI S) (hS : S ≤ 3) (hS1 : 1 ≤ S) (hx : x0 ≤ i) (hi : i ≤ S) (hs : s0 ≤ 1) (hqa : qa ≤ 1000000) (hqb : qb ≤ 1000000) : ∀ (n F : Nat) (bs : Nat → Int64), y0 + n ≤ S + 1 → n < F → x_In S qa qb x0 y0 s0 i (y0 + n) bs → ∃ (y : Int32) (bs' : Nat → Int64), l_X2_ofMatch_50 (nI x0) (nI y0) (nI s0) (lN qa) (lN qb) (nI i) r bg F (nI (y0 + n) + (-1), bs) = some (y, bs') ∧ x_In S qa qb x0 y0 s0 i y0 bs' := by
  intro n
  induction n with
  | zero =>
    intro F bs hn hF hI
    obtain ⟨F, rfl⟩ : ∃ F', F = F' + 1 := ⟨F - 1, by omega⟩
    refine ⟨nI (y0 + 0) + (-1), bs, ?_, hI⟩
    show b_X2_ofMatch_50 (l_X2_ofMatch_50 (nI x0) (nI y0) (nI s0) (lN qa) (lN qb) (nI i) r bg F) (nI x0) (nI y0) (nI s0) (lN qa) (lN qb) (nI i) (nI (y0 + 0) + (-1)) r bg bs = _
    unfold b_X2_ofMatch_50
    rw [if_pos (show nI (y0 + 0) + (-1) < nI y0 from o_lt y0 (by omega))]
  | succ n ih =>
    intro F bs hn hF hI
    obtain ⟨F, rfl⟩ : ∃ F', F = F' + 1 := ⟨F - 1, by omega⟩
    obtain ⟨bs1, q1, q2⟩ := x_step r bg (l_X2_ofMatch_50 (nI x0) (nI y0) (nI s0) (lN qa) (lN qb) (nI i) r bg F) r4 hS hS1 hx (show y0 ≤ y0 + n by omega) hi (show y0 + n ≤ S by omega) hs hqa hqb bs hI
    obtain ⟨y, bs', q3, q4⟩ := ih F bs1 (by omega) (by omega) q2
    refine ⟨y, bs', ?_, q4⟩
    rw [show nI (y0 + (n + 1)) + (-1) = nI (y0 + n) from pk_m1 (y0 + n)]
    exact Eq.trans q1 q3
theorem x_outer {S qa qb x0 y0 s0 : Nat} (r4 : r 4 = nI S) (hS : S ≤ 3) (hS1 : 1 ≤ S) (hy : y0 ≤ S) (hs : s0 ≤ 1) (hqa : qa ≤ 1000000) (hqb : qb ≤ 1000000) : ∀ (n F : Nat) (bs : Nat → Int64), x0 + n ≤ S + 1 → n < F → x_In S qa qb x0 y0 s0 (x0 + n) y0 bs → ∃ (y : Int32) (bs' : Nat → Int64), l_X2_ofMatch_35 (nI x0) (nI y0) (nI s0) (lN qa) (lN qb) r bg F (nI (x0 + n) + (-1), bs) = some (y, bs') ∧ x_In S qa qb x0 y0 s0 x0 y0 bs' := by
  intro n
  induction n with
  | zero =>
    intro F bs hn hF hI
    obtain ⟨F, rfl⟩ : ∃ F', F = F' + 1 := ⟨F - 1, by omega⟩
    refine ⟨nI (x0 + 0) + (-1), bs, ?_, hI⟩
    show b_X2_ofMatch_35 (l_X2_ofMatch_35 (nI x0) (nI y0) (nI s0) (lN qa) (lN qb) r bg F) (nI x0) (nI y0) (nI s0) (lN qa) (lN qb) (nI (x0 + 0) + (-1)) r bg bs = _
    unfold b_X2_ofMatch_35
    rw [if_pos (show nI (x0 + 0) + (-1) < nI x0 from o_lt x0 (by omega))]
  | succ n ih =>
    intro F bs hn hF hI
    obtain ⟨F, rfl⟩ : ∃ F', F = F' + 1 := ⟨F - 1, by omega⟩
    obtain ⟨y1, bs1, q1, q2⟩ := x_inner r bg r4 hS hS1 (show x0 ≤ x0 + n by omega) (show x0 + n ≤ S by omega) hs hqa hqb (S + 1 - y0) 1000 bs (by omega) (by omega) (fun x y h1 h2 h3 h4 h5 h6 => hI x y h1 h2 h3 h4 h5 (by omega))
    obtain ⟨y, bs', q3, q4⟩ := ih F bs1 (by omega) (by omega) q2
    refine ⟨y, bs', ?_, q4⟩
    rw [show y0 + (S + 1 - y0) = S + 1 by omega, pk_m1] at q1
    show b_X2_ofMatch_35 (l_X2_ofMatch_35 (nI x0) (nI y0) (nI s0) (lN qa) (lN qb) r bg F) (nI x0) (nI y0) (nI s0) (lN qa) (lN qb) (nI (x0 + (n + 1)) + (-1)) r bg bs = _
    unfold b_X2_ofMatch_35
    rw [show nI (x0 + (n + 1)) + (-1) = nI (x0 + n) from pk_m1 (x0 + n), if_neg (nI_nlt (show x0 ≤ x0 + n by omega) (by omega)), r4]
    exact Eq.trans (p_b2 q1) q3
theorem x_match {S G ga gb x0 y0 s0 : Nat} (r3 : r 3 = nI G) (hG6 : G ≤ 6) (hG1 : 1 ≤ G) (r4 : r 4 = nI S) (hS : S ≤ 3) (hS1 : 1 ≤ S) (hx : x0 ≤ S) (hy : y0 ≤ S) (hxy : x0 + y0 ≤ 2 * S - 1) (hs : s0 ≤ 1) (hga : ga ≤ 1000000) (hgb : gb ≤ 1000000) (bs : Nat → Int64) : ∃ bg' bs' : Nat → Int64, f_X2_ofMatch (nI x0) (nI y0) (nI s0) (lN ga) (lN gb) r bg bs = some (lN (w_M S (v_S G ga gb (2 * G) 0 0 0) (v_S G ga gb (2 * G) 0 0 1) (2 * S - 1 - x0 - y0) x0 y0 s0), bg', bs') := by
  obtain ⟨bg1, p1⟩ := o_set r bs (x0 := 0) (y0 := 0) (s0 := 0) r3 hG6 hG1 (by omega) (by omega) (by omega) hga hgb bg
  obtain ⟨bg2, p2⟩ := o_set r bs (x0 := 0) (y0 := 0) (s0 := 1) r3 hG6 hG1 (by omega) (by omega) (by omega) hga hgb bg1
  obtain ⟨y, bs', q1, q2⟩ := x_outer r bg2 (x0 := x0) (y0 := y0) (qa := v_S G ga gb (2 * G) 0 0 0) (qb := v_S G ga gb (2 * G) 0 0 1) r4 hS hS1 hy hs (v_le hga hgb _ _ _ _) (v_le hga hgb _ _ _ _) (S + 1 - x0) 1000 bs (by omega) (by omega) (fun x y h1 h2 h3 h4 h5 h6 => absurd h6 (by omega))
  rw [show x0 + (S + 1 - x0) = S + 1 by omega, pk_m1] at q1
  have e := q2 x0 y0 hx hy hxy (Nat.le_refl _) (Nat.le_refl _) (by omega)
  rw [show (s0 + x0 - x0 + y0 - y0) % 2 = s0 by omega] at e
  refine ⟨bg2, bs', ?_⟩
  unfold f_X2_ofMatch
  refine Eq.trans (p_b2 (show f_X2_ofSet 0 0 0 (lN ga) (lN gb) r bg bs = _ from p1)) ?_
  refine Eq.trans (p_b2 (show f_X2_ofSet 0 0 1 (lN ga) (lN gb) r bg1 bs = _ from p2)) ?_
  rw [r4]
  refine Eq.trans (p_b2 q1) ?_
  refine Eq.trans (p_b1 (show f_X1_at (nI x0) (nI y0) 4 16 bs' = _ from g_at (s := 4) (by omega) (by omega) (by decide) rfl bs')) ?_
  rw [e]
end XS
section XZ
variable (r : Nat → Int32) (to : Int32) (un : Int64) (fc fl bg bs : Nat → Int64) (wn pl : Nat → Int32) (tr : Int64) (th : Int32) (tc : Int64) (mr : Nat → Int32) (pd : Int32) (mp : Nat → Int32) (ch la : Nat → Int64) (be : Int64) (se : Nat → Int64) (ta : Nat → Int32) (fs : Int32)
theorem z_match (x1 x2 x3 : Int32) (h : z_I r wn pl tr tc mr pd mp ta fs) : ∃ (v : Int32) (to' : Int32) (un' : Int64) (fc' : (Nat → Int64)) (fl' : (Nat → Int64)) (bg' : (Nat → Int64)) (bs' : (Nat → Int64)) (th' : Int32) (ch' : (Nat → Int64)) (la' : (Nat → Int64)) (be' : Int64) (se' : (Nat → Int64)), f_X6_match x1 x2 x3 r to un fc fl bg bs wn pl tr = some (v, to', un', fc', fl', bg', bs') ∧ f_X7_match x1 x2 x3 th tc mr pd mp ch la be se ta fs = some (v, th', ch', la', be', se') ∧ z_I r wn pl tr tc mr pd mp ta fs := by
  obtain ⟨htr, a, b, P, G, S, hh, k, n, bits, hok, hr, hm, hn, hpd, hb, hl, hpl, hta⟩ := id h
  have r3 := hr.2.2.2.1
  have r4 := hr.2.2.2.2.1
  have m4 := hm.2.2.2.2.1
  have hG1 := hok.2.2.2.2.2.2.1
  have hG6 := hok.2.2.2.2.2.2.2.1
  have hS1 := hok.2.2.2.2.2.2.2.2.1
  have hS := hok.2.2.2.2.2.2.2.2.2.1
  have n10 : ¬ (1 : Int32) = 0 := by decide
  rcases p_within x1 (a := 0) (n := S) (by decide) (by omega) with ⟨i6, i7⟩ | ⟨x, -, hx, e1, i6, i7⟩
  · refine ⟨-1, to, un, fc, fl, bg, bs, 0, ch, la, be, se, ?_, ?_, h⟩
    · unfold f_X6_match
      rw [r4]
      exact p_b1 (show f_X6_within x1 0 (nI S) = some 0 from i6)
    · unfold f_X7_match
      rw [m4]
      exact p_b1 (show f_X7_in x1 0 (nI S) = some 0 from i7)
  have ea : ∀ {β : Type} (N B : Option β), q_b1 (f_X6_within x1 0 (nI S)) (fun r7 => if r7 = 0 then N else B) = B := fun N B => Eq.trans (p_b1 (show f_X6_within x1 0 (nI S) = some 1 from i6)) (if_neg n10)
  have ea7 : ∀ {β : Type} (N B : Option β), q_b1 (f_X7_in x1 0 (nI S)) (fun r7 => if r7 = 0 then N else B) = B := fun N B => Eq.trans (p_b1 (show f_X7_in x1 0 (nI S) = some 1 from i7)) (if_neg n10)
  rcases p_within x2 (a := 0) (n := S) (by decide) (by omega) with ⟨j6, j7⟩ | ⟨y, -, hy, e2, j6, j7⟩
  · refine ⟨-1, to, un, fc, fl, bg, bs, 0, ch, la, be, se, ?_, ?_, h⟩
    · unfold f_X6_match
      rw [r4]
      refine Eq.trans (ea _ _) ?_
      exact p_b1 (show f_X6_within x2 0 (nI S) = some 0 from j6)
    · unfold f_X7_match
      rw [m4]
      refine Eq.trans (ea7 _ _) ?_
      exact p_b1 (show f_X7_in x2 0 (nI S) = some 0 from j7)
  have eb : ∀ {β : Type} (N B : Option β), q_b1 (f_X6_within x2 0 (nI S)) (fun r7 => if r7 = 0 then N else B) = B := fun N B => Eq.trans (p_b1 (show f_X6_within x2 0 (nI S) = some 1 from j6)) (if_neg n10)
  have eb7 : ∀ {β : Type} (N B : Option β), q_b1 (f_X7_in x2 0 (nI S)) (fun r7 => if r7 = 0 then N else B) = B := fun N B => Eq.trans (p_b1 (show f_X7_in x2 0 (nI S) = some 1 from j7)) (if_neg n10)
  by_cases cS : x = S ∧ y = S
  · have q1 : x1 = nI S := by rw [e1, cS.1]
    have q2 : x2 = nI S := by rw [e2, cS.2]
    refine ⟨-1, to, un, fc, fl, bg, bs, 0, ch, la, be, se, ?_, ?_, h⟩
    · unfold f_X6_match
      rw [r4]
      refine Eq.trans (ea _ _) (Eq.trans (eb _ _) ?_)
      rw [if_pos q1, if_pos q2]
      rcases p_isEither x3 with ⟨k6, k7⟩ | ⟨s, hs, e3, k6, k7⟩
      · exact p_b1 k6
      · refine Eq.trans (p_b1 k6) ?_
        rw [if_neg n10]
    · unfold f_X7_match
      rw [m4]
      refine Eq.trans (ea7 _ _) (Eq.trans (eb7 _ _) ?_)
      rw [if_pos q1, if_pos q2]
  have hif : ∀ {β : Type} (N B : Option β), (if x1 = nI S then (if x2 = nI S then N else B) else B) = B := by
    intro β N B
    by_cases c1 : x1 = nI S
    · rw [if_pos c1, if_neg]
      intro c2
      exact cS ⟨(nI_eq (by omega) (by omega)).mp (e1.symm.trans c1), (nI_eq (by omega) (by omega)).mp (e2.symm.trans c2)⟩
    · rw [if_neg c1]
  rcases p_isEither x3 with ⟨k6, k7⟩ | ⟨s, hs, e3, k6, k7⟩
  · refine ⟨-1, to, un, fc, fl, bg, bs, 0, ch, la, be, se, ?_, ?_, h⟩
    · unfold f_X6_match
      rw [r4]
      refine Eq.trans (ea _ _) (Eq.trans (eb _ _) ?_)
      exact p_b1 k6
    · unfold f_X7_match
      rw [m4]
      refine Eq.trans (ea7 _ _) (Eq.trans (eb7 _ _) (Eq.trans (hif _ _) ?_))
      unfold b_X7_match_45
      exact p_b1 k7
  obtain ⟨ga, gb, hga, hgb, g2, g3⟩ := o_begin r tc mr pd mp ta fs hok hr hm
  obtain ⟨bg', bs', q1⟩ := x_match r bg (x0 := x) (y0 := y) r3 hG6 hG1 r4 hS hS1 hx hy (by omega) hs hga hgb bs
  obtain ⟨to', un', fc', fl', q2⟩ := g2 to un fc fl (fun r1 r7 to8 un9 fc10 fl11 => q_b3 (f_X2_ofMatch x1 x2 x3 r1 r7 r bg bs) (fun r13 bg14 bs15 => some (Int64.toInt32 r13, to8, un9, fc10, fl11, bg14, bs15)))
  obtain ⟨ch', la', be', se', q3, q4⟩ := g3 0 ch la be se
  have s0 : se' 0 = lN (v_S G ga gb (2 * G) 0 0 0) := q4 0 0 0 (by omega) (by omega) (by omega) (by omega) (by omega)
  have s1 : se' 1 = lN (v_S G ga gb (2 * G) 0 0 1) := q4 0 0 1 (by omega) (by omega) (by omega) (by omega) (by omega)
  obtain ⟨y9, se2, q5, q6⟩ := w_all 0 tc mr pd mp ch' la' be' ta fs x1 x2 x3 hS hS1 (qa := v_S G ga gb (2 * G) 0 0 0) (qb := v_S G ga gb (2 * G) 0 0 1) (v_le hga hgb _ _ _ _) (v_le hga hgb _ _ _ _) (2 * S) 1000 se' (by omega) (by omega) (fun x y z h1 h2 h3 h4 h5 => absurd h5 (by omega))
  have e7 : (2 : Int32) * nI S - 1 = nI (2 * S) + (-1) := by
    rw [show (2 : Int32) * nI S = nI (2 * S) from pk_mul 2 S]
    obtain ⟨S', hS'⟩ : ∃ S', 2 * S = S' + 1 := ⟨2 * S - 1, by omega⟩
    rw [hS', pk_m1, nI_pred]
  refine ⟨Int64.toInt32 (lN (w_M S (v_S G ga gb (2 * G) 0 0 0) (v_S G ga gb (2 * G) 0 0 1) (2 * S - 1 - x - y) x y s)), to', un', fc', fl', bg', bs', 0, ch', la', be', se2, ?_, ?_, h⟩
  · unfold f_X6_match
    rw [r4]
    refine Eq.trans (ea _ _) (Eq.trans (eb _ _) ?_)
    refine Eq.trans (p_b1 k6) ?_
    rw [if_neg n10]
    refine Eq.trans (hif _ _) ?_
    unfold b_X6_match_63
    refine Eq.trans q2 ?_
    refine p_b3 (a := lN (w_M S (v_S G ga gb (2 * G) 0 0 0) (v_S G ga gb (2 * G) 0 0 1) (2 * S - 1 - x - y) x y s)) (b := bg') (c := bs') ?_
    rw [e1, e2, e3]
    exact q1
  · unfold f_X7_match
    rw [m4]
    refine Eq.trans (ea7 _ _) (Eq.trans (eb7 _ _) (Eq.trans (hif _ _) ?_))
    unfold b_X7_match_45
    refine Eq.trans (p_b1 k7) ?_
    rw [if_neg n10]
    refine Eq.trans (p_b4 q3) ?_
    rw [s0, s1, e7]
    refine Eq.trans (p_b2 q5) ?_
    rw [e1, e2, e3, v_ix, if_neg (p_gd (show 2 * (8 * x + y) + s < 128 by omega) (by decide)), p_cl (by omega), q6 x y s hx hy (by omega) hs (by omega)]
end XZ
