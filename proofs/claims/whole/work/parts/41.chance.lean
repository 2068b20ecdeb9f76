/-! chance, lasts, weight -/
theorem j_C {w P k x d i j : Nat} (hw : w < 10) (hx : x < 2) (hP1 : 1 ≤ P) (hP5 : P ≤ 5) (hd : i + j + d = 2 * P) (hk0 : k = 0 ∨ i < P ∨ j < P) : g_V w (g_U w k) P k x d i j ≤ 130000000000000 := by
  obtain ⟨u1, u2, u3⟩ := i_Up w k hw
  have h1 := (i_id (k := k) (x := x) hw hx hP1 hP5 d i j hd hk0).1
  have h2 : h_V w P k x (d + 2) i j ≤ 13000000000000 := Nat.le_trans (h_V9 (by omega) (by omega) _ _ _) (by omega)
  have h3 : g_V w (g_U w k) P k x d i j * (g_U w k * 1000000000) ≤ g_V w (g_U w k) P k x d i j * h_B w := Nat.mul_le_mul_left _ u3
  have h4 : 10 ^ d ≤ 10 ^ 10 := Nat.pow_le_pow_right (by decide) (by omega)
  have h5 : g_U w k * 10 ^ d ≤ g_U w k * 10 ^ 10 := Nat.mul_le_mul_left _ h4
  have h6 : h_V w P k x (d + 2) i j * (g_U w k * 10 ^ d) ≤ 13000000000000 * (g_U w k * 10 ^ 10) := Nat.mul_le_mul h2 h5
  have h7 : g_V w (g_U w k) P k x d i j * (g_U w k * 1000000000) ≤ 130000000000000 * (g_U w k * 1000000000) := by
    rw [h1] at h3
    refine Nat.le_trans h3 (Nat.le_trans h6 (Nat.le_of_eq ?_))
    rw [show (10 : Nat) ^ 10 = 10 * 1000000000 from rfl, ← Nat.mul_assoc, ← Nat.mul_assoc, Nat.mul_right_comm 13000000000000, ← Nat.mul_assoc]
  exact Nat.le_of_mul_le_mul_right h7 (Nat.mul_pos u1 (by decide))
theorem j_b {w k d : Nat} (hw : w < 10) (hd : d ≤ 10) : 0 < g_U w k * 10 ^ d ∧ g_U w k * 10 ^ d < 2 ^ 45 := by
  obtain ⟨u1, u2, u3⟩ := i_Up w k hw
  have h4 : 10 ^ d ≤ 10 ^ 10 := Nat.pow_le_pow_right (by decide) hd
  have h5 : g_U w k * 10 ^ d ≤ 181 * 10 ^ 10 := Nat.mul_le_mul u2 h4
  have h6 : (181 : Nat) * 10 ^ 10 < 2 ^ 45 := by decide
  exact ⟨Nat.mul_pos u1 (Nat.pow_pos (by decide)), by omega⟩
theorem j_eq {C B R b p : Nat} (h : C * B = R * b) (hB : 0 < B) (hb : 0 < b) : (if p = 0 then C else b) / Nat.gcd C b = (if p = 0 then R else B) / Nat.gcd R B := by
  obtain ⟨h1, h2⟩ := i_least h hB hb
  by_cases c : p = 0
  · rw [if_pos c, if_pos c, h1]
  · rw [if_neg c, if_neg c, h2]
theorem j_w {w P k d i j : Nat} (hw : w < 10) (hP1 : 1 ≤ P) (hP5 : P ≤ 5) (hd : i + j + d + 1 = 2 * P) (hk0 : k = 0 ∨ i < P ∨ j < P) (c0 : s_won P k i j = 0) : g_V w (g_U w k) P k 0 d i (j + 1) ≤ g_V w (g_U w k) P k 0 d (i + 1) j ∧ h_V w P k 0 (d + 2) i (j + 1) ≤ h_V w P k 0 (d + 2) (i + 1) j ∧ (g_V w (g_U w k) P k 0 d (i + 1) j - g_V w (g_U w k) P k 0 d i (j + 1)) * h_B w = (h_V w P k 0 (d + 2) (i + 1) j - h_V w P k 0 (d + 2) i (j + 1)) * (g_U w k * 10 ^ d) := by
  have hk1 := i_w c0 (by omega) hk0
  have h1 := i_mono hw hP1 hP5 d i j hd hk0 c0
  have h2 := (i_id (k := k) (x := 0) hw (by decide) hP1 hP5 d (i + 1) j (by omega) (by omega)).1
  have h3 := (i_id (k := k) (x := 0) hw (by decide) hP1 hP5 d i (j + 1) (by omega) (by omega)).1
  have hb := (j_b (k := k) (d := d) hw (by omega)).1
  refine ⟨h1, ?_, by rw [Nat.sub_mul, Nat.sub_mul, h2, h3]⟩
  have h4 := Nat.mul_le_mul_right (h_B w) h1
  rw [h2, h3] at h4
  exact Nat.le_of_mul_le_mul_right h4 hb
section JZ
variable (r : Nat → Int32) (to : Int32) (un : Int64) (fc fl bg bs : Nat → Int64) (wn pl : Nat → Int32) (tr : Int64) (th : Int32) (tc : Int64) (mr : Nat → Int32) (pd : Int32) (mp : Nat → Int32) (ch la : Nat → Int64) (be : Int64) (se : Nat → Int64) (ta : Nat → Int32) (fs : Int32)
theorem j_score {P k : Nat} (x1 x2 : Int32) (r2 : r 2 = nI P) (r6 : r 6 = nI k) (m2 : mr 2 = nI P) (m6 : mr 6 = nI k) (hP5 : P ≤ 5) (hk : k ≤ 2) :
    (f_X6_isScore x1 x2 r to un fc fl bg bs wn pl tr = some 0 ∧ ∀ x3 x4, f_X7_isAsked x1 x2 x3 x4 th tc mr pd mp ch la be se ta fs = some 0) ∨
    ∃ i j, i ≤ P ∧ j ≤ P ∧ x1 = nI i ∧ x2 = nI j ∧ (k = 0 ∨ i < P ∨ j < P) ∧ f_X6_isScore x1 x2 r to un fc fl bg bs wn pl tr = some 1 ∧ ∀ x3 x4, f_X7_isAsked x1 x2 x3 x4 th tc mr pd mp ch la be se ta fs = b_X7_isAsked_50 x3 x4 th tc mr pd mp ch la be se ta fs := by
  have n10 : ¬ (1 : Int32) = 0 := by decide
  unfold f_X6_isScore f_X7_isAsked b_X6_isScore_50 b_X6_isScore_46 b_X7_isAsked_73
  rw [r2, r6, m2, m6]
  rcases p_within x1 (a := 0) (n := P) (by decide) (by omega) with ⟨h6, h7⟩ | ⟨i, -, hi, e1, h6, h7⟩
  · exact Or.inl ⟨p_b1 (show f_X6_within x1 0 (nI P) = some 0 from h6), fun x3 x4 => p_b1 (show f_X7_in x1 0 (nI P) = some 0 from h7)⟩
  rw [p_b1 (show f_X6_within x1 0 (nI P) = some 1 from h6), if_neg n10]
  have ea : ∀ {β : Type} (N B : Option β), q_b1 (f_X7_in x1 0 (nI P)) (fun r7 => if r7 = 0 then N else B) = B := fun N B => Eq.trans (p_b1 (show f_X7_in x1 0 (nI P) = some 1 from h7)) (if_neg n10)
  rcases p_within x2 (a := 0) (n := P) (by decide) (by omega) with ⟨i6, i7⟩ | ⟨j, -, hj, e2, i6, i7⟩
  · exact Or.inl ⟨p_b1 (show f_X6_within x2 0 (nI P) = some 0 from i6), fun x3 x4 => Eq.trans (ea _ _) (p_b1 (show f_X7_in x2 0 (nI P) = some 0 from i7))⟩
  rw [p_b1 (show f_X6_within x2 0 (nI P) = some 1 from i6), if_neg n10]
  have eb : ∀ {β : Type} (N B : Option β), q_b1 (f_X7_in x2 0 (nI P)) (fun r7 => if r7 = 0 then N else B) = B := fun N B => Eq.trans (p_b1 (show f_X7_in x2 0 (nI P) = some 1 from i7)) (if_neg n10)
  by_cases ck : k = 0
  · rw [if_pos (show nI k = 0 by rw [ck]; rfl)]
    refine Or.inr ⟨i, j, hi, hj, e1, e2, Or.inl ck, rfl, fun x3 x4 => Eq.trans (ea _ _) (Eq.trans (eb _ _) ?_)⟩
    rw [if_pos (show nI k = 0 by rw [ck]; rfl)]
  have nk : ¬ nI k = 0 := fun z => ck ((nI_eq (b := 0) (by omega) (by decide)).mp z)
  rw [if_neg nk]
  by_cases ci : i < P
  · rw [if_pos (show x1 < nI P by rw [e1]; exact nI_lt ci (by omega))]
    refine Or.inr ⟨i, j, hi, hj, e1, e2, Or.inr (Or.inl ci), rfl, fun x3 x4 => Eq.trans (ea _ _) (Eq.trans (eb _ _) ?_)⟩
    rw [if_neg nk, if_pos (show x1 < nI P by rw [e1]; exact nI_lt ci (by omega))]
  have ni : ¬ x1 < nI P := by rw [e1]; exact nI_nlt (by omega) (by omega)
  rw [if_neg ni]
  by_cases cj : j < P
  · rw [if_neg (show ¬ nI P ≤ x2 by rw [e2]; exact nI_ge cj (by omega))]
    refine Or.inr ⟨i, j, hi, hj, e1, e2, Or.inr (Or.inr cj), rfl, fun x3 x4 => Eq.trans (ea _ _) (Eq.trans (eb _ _) ?_)⟩
    rw [if_neg nk, if_neg ni, if_neg (show ¬ nI P ≤ x2 by rw [e2]; exact nI_ge cj (by omega))]
  · rw [if_pos (show nI P ≤ x2 by rw [e2]; exact nI_le (by omega) (by omega))]
    refine Or.inl ⟨rfl, fun x3 x4 => Eq.trans (ea _ _) (Eq.trans (eb _ _) ?_)⟩
    rw [if_neg nk, if_neg ni, if_pos (show nI P ≤ x2 by rw [e2]; exact nI_le (by omega) (by omega))]
theorem j_ask {P k : Nat} (x1 x2 x3 x4 : Int32) (r2 : r 2 = nI P) (r6 : r 6 = nI k) (m2 : mr 2 = nI P) (m6 : mr 6 = nI k) (hP5 : P ≤ 5) (hk : k ≤ 2) :
    (f_X7_isAsked x1 x2 x3 x4 th tc mr pd mp ch la be se ta fs = some 0 ∧ ∀ {α : Type} (N B : Option α), q_b1 (f_X6_isScore x1 x2 r to un fc fl bg bs wn pl tr) (fun r1 => if r1 = 0 then N else q_b1 (f_X6_isEither x3) (fun r4 => if r4 = 0 then N else q_b1 (f_X6_isEither x4) (fun r7 => if r7 = 0 then N else B))) = N) ∨
    ∃ i j sv p, i ≤ P ∧ j ≤ P ∧ sv ≤ 1 ∧ p ≤ 1 ∧ x1 = nI i ∧ x2 = nI j ∧ x3 = nI sv ∧ x4 = nI p ∧ (k = 0 ∨ i < P ∨ j < P) ∧ f_X7_isAsked x1 x2 x3 x4 th tc mr pd mp ch la be se ta fs = some 1 ∧ ∀ {α : Type} (N B : Option α), q_b1 (f_X6_isScore x1 x2 r to un fc fl bg bs wn pl tr) (fun r1 => if r1 = 0 then N else q_b1 (f_X6_isEither x3) (fun r4 => if r4 = 0 then N else q_b1 (f_X6_isEither x4) (fun r7 => if r7 = 0 then N else B))) = B := by
  have n10 : ¬ (1 : Int32) = 0 := by decide
  rcases j_score r to un fc fl bg bs wn pl tr th tc mr pd mp ch la be se ta fs x1 x2 r2 r6 m2 m6 hP5 hk with ⟨h6, h7⟩ | ⟨i, j, hi, hj, e1, e2, hk0, h6, h7⟩
  · exact Or.inl ⟨h7 x3 x4, fun N B => p_b1 h6⟩
  have ea : ∀ {β : Type} (N B : Option β), q_b1 (f_X6_isScore x1 x2 r to un fc fl bg bs wn pl tr) (fun r1 => if r1 = 0 then N else B) = B := fun N B => Eq.trans (p_b1 h6) (if_neg n10)
  rw [h7 x3 x4]
  unfold b_X7_isAsked_50 b_X7_isAsked_73
  rcases p_isEither x3 with ⟨i6, i7⟩ | ⟨sv, hsv, e3, i6, i7⟩
  · exact Or.inl ⟨p_b1 i7, fun N B => Eq.trans (ea _ _) (p_b1 i6)⟩
  have eb : ∀ {β : Type} (N B : Option β), q_b1 (f_X6_isEither x3) (fun r1 => if r1 = 0 then N else B) = B := fun N B => Eq.trans (p_b1 i6) (if_neg n10)
  rw [p_b1 i7, if_neg n10]
  rcases p_isEither x4 with ⟨k6, k7⟩ | ⟨p, hp, e4, k6, k7⟩
  · exact Or.inl ⟨p_b1 k7, fun N B => Eq.trans (ea _ _) (Eq.trans (eb _ _) (p_b1 k6))⟩
  refine Or.inr ⟨i, j, sv, p, hi, hj, hsv, hp, e1, e2, e3, e4, hk0, ?_, fun N B => Eq.trans (ea _ _) (Eq.trans (eb _ _) (Eq.trans (p_b1 k6) (if_neg n10)))⟩
  rw [p_b1 k7, if_neg n10]
/-- who serves: the strength both speak of -/
theorem j_sv {a b sv : Nat} (h1 : 1 ≤ a) (h2 : a ≤ 9) (h3 : 1 ≤ b) (h4 : b ≤ 9) (r0 : r 0 = nI a) (r1 : r 1 = nI b) (m0 : mr 0 = nI a) (m1 : mr 1 = nI b) (hsv : sv ≤ 1) : ∃ w, w < 10 ∧ f_X5_tenthsOfA (nI sv) r = some (nI w) ∧ mr sv = nI w := by
  rcases (show sv = 0 ∨ sv = 1 by omega) with rfl | rfl
  · refine ⟨a, by omega, ?_, m0⟩
    unfold f_X5_tenthsOfA
    rw [if_pos (show nI 0 = 0 from rfl), r0]
  · refine ⟨b, by omega, ?_, m1⟩
    unfold f_X5_tenthsOfA
    rw [if_neg (show ¬ nI 1 = 0 by decide), r1]
theorem j_ix {i j : Nat} : (7 : Int32) * nI i + nI j = nI (7 * i + j) := by
  rw [show (7 : Int32) * nI i = nI (7 * i) from pk_mul 7 i, nI_add]
theorem z_chance (x1 x2 x3 x4 : Int32) (h : z_I r wn pl tr tc mr pd mp ta fs) : ∃ (v : Int64) (to' : Int32) (un' : Int64) (fc' : (Nat → Int64)) (fl' : (Nat → Int64)) (th' : Int32) (ch' : (Nat → Int64)) (la' : (Nat → Int64)) (be' : Int64), f_X6_chance x1 x2 x3 x4 r to un fc fl bg bs wn pl tr = some (v, to', un', fc', fl') ∧ f_X7_chance x1 x2 x3 x4 th tc mr pd mp ch la be se ta fs = some (v, th', ch', la', be') ∧ z_I r wn pl tr tc mr pd mp ta fs := by
  obtain ⟨htr, a, b, P, G, S, hh, k, n, bits, hok, hr, hm, hn, hpd, hb, hl, hpl, hta⟩ := id h
  obtain ⟨r0, r1, r2, r3, r4, r5, r6⟩ := hr
  obtain ⟨m0, m1, m2, m3, m4, m5, m6⟩ := hm
  obtain ⟨o1, o2, o3, o4, o5, o6, o7, o8, o9, o10, o11, o12⟩ := hok
  rcases j_ask r to un fc fl bg bs wn pl tr 0 tc mr pd mp ch la be se ta fs x1 x2 x3 x4 r2 r6 m2 m6 o6 o12 with ⟨h7, h6⟩ | ⟨i, j, sv, p, hi, hj, hsv, hp, e1, e2, e3, e4, hk0, h7, h6⟩
  · refine ⟨-1000000000000000000, to, un, fc, fl, 0, ch, la, be, ?_, ?_, h⟩
    · unfold f_X6_chance
      exact h6 _ _
    · unfold f_X7_chance
      exact p_b1 h7
  obtain ⟨w, hw, q1, q2⟩ := j_sv r mr o1 o2 o3 o4 r0 r1 m0 m1 hsv
  obtain ⟨fc', fl', g1, g2⟩ := g_reckon q1 r2 r6 (show w ≤ 9 by omega) o5 o6 o12 to un fc fl
  obtain ⟨ch', la', w1, w2⟩ := h_works 0 tc mr pd mp se ta fs hsv q2 m2 m6 (show w ≤ 9 by omega) o5 o6 o12 ch la be
  obtain ⟨d, hd⟩ : ∃ d, d = 2 * P - i - j := ⟨_, rfl⟩
  have hdd : i + j + d = 2 * P := by omega
  have gv := (g2 i j (by omega) (by omega) (by omega) (by omega)).1
  have hv := (w2 i j (by omega) (by omega) (by omega) (by omega)).1
  rw [← hd] at gv
  rw [show 2 * P + 2 - i - j = d + 2 by omega] at hv
  obtain ⟨b1, b2⟩ := j_b (k := k) (d := d) hw (by omega)
  obtain ⟨B1, B2, B3⟩ := i_Bp w hw
  have id1 := (i_id (k := k) (x := 0) hw (by decide) o5 o6 d i j hdd hk0).1
  have hC := j_C (k := k) (x := 0) hw (by decide) o5 o6 hdd hk0
  have hR : h_V w P k 0 (d + 2) i j ≤ 13000000000000 := Nat.le_trans (h_V9 (by omega) (by omega) _ _ _) (by omega)
  refine ⟨lN ((if p = 0 then g_V w (g_U w k) P k 0 d i j else g_U w k * 10 ^ d) / Nat.gcd (g_V w (g_U w k) P k 0 d i j) (g_U w k * 10 ^ d)), nI P, lN (g_U w k), fc', fl', 0, ch', la', lN (h_B w), ?_, ?_, h⟩
  · unfold f_X6_chance
    refine Eq.trans (h6 _ _) ?_
    rw [e1, e2, e3, e4]
    refine Eq.trans (p_b4 g1) ?_
    refine Eq.trans (p_b1 (g_at7 (by omega) (by omega) fc')) ?_
    refine Eq.trans (p_b1 (g_bottom o6 (by omega) r fc' fl')) ?_
    rw [gv, ← hd]
    exact p_b1 (i_least6 (by omega) b2 b1 hp)
  · unfold f_X7_chance
    refine Eq.trans (p_b1 h7) ?_
    rw [if_neg (show ¬ (1 : Int32) = 0 by decide), e1, e2, e3, e4]
    refine Eq.trans (p_b3 w1) ?_
    rw [j_ix, if_neg (p_gd (show 7 * i + j < 49 by omega) (by decide)), p_cl (by omega), hv, j_eq id1 B1 b1]
    exact p_b1 (i_part 0 tc mr pd mp ch' la' se ta fs (by omega) (by omega) B1 hp)
theorem z_lasts (x1 x2 x3 x4 : Int32) (h : z_I r wn pl tr tc mr pd mp ta fs) : ∃ (v : Int64) (to' : Int32) (un' : Int64) (fc' : (Nat → Int64)) (fl' : (Nat → Int64)) (th' : Int32) (ch' : (Nat → Int64)) (la' : (Nat → Int64)) (be' : Int64), f_X6_lasts x1 x2 x3 x4 r to un fc fl bg bs wn pl tr = some (v, to', un', fc', fl') ∧ f_X7_lasts x1 x2 x3 x4 th tc mr pd mp ch la be se ta fs = some (v, th', ch', la', be') ∧ z_I r wn pl tr tc mr pd mp ta fs := by
  obtain ⟨htr, a, b, P, G, S, hh, k, n, bits, hok, hr, hm, hn, hpd, hb, hl, hpl, hta⟩ := id h
  obtain ⟨r0, r1, r2, r3, r4, r5, r6⟩ := hr
  obtain ⟨m0, m1, m2, m3, m4, m5, m6⟩ := hm
  obtain ⟨o1, o2, o3, o4, o5, o6, o7, o8, o9, o10, o11, o12⟩ := hok
  rcases j_ask r to un fc fl bg bs wn pl tr 0 tc mr pd mp ch la be se ta fs x1 x2 x3 x4 r2 r6 m2 m6 o6 o12 with ⟨h7, h6⟩ | ⟨i, j, sv, p, hi, hj, hsv, hp, e1, e2, e3, e4, hk0, h7, h6⟩
  · refine ⟨-1000000000000000000, to, un, fc, fl, 0, ch, la, be, ?_, ?_, h⟩
    · unfold f_X6_lasts
      exact h6 _ _
    · unfold f_X7_lasts
      exact p_b1 h7
  obtain ⟨w, hw, q1, q2⟩ := j_sv r mr o1 o2 o3 o4 r0 r1 m0 m1 hsv
  obtain ⟨fc', fl', g1, g2⟩ := g_reckon q1 r2 r6 (show w ≤ 9 by omega) o5 o6 o12 to un fc fl
  obtain ⟨ch', la', w1, w2⟩ := h_works 0 tc mr pd mp se ta fs hsv q2 m2 m6 (show w ≤ 9 by omega) o5 o6 o12 ch la be
  obtain ⟨d, hd⟩ : ∃ d, d = 2 * P - i - j := ⟨_, rfl⟩
  have hdd : i + j + d = 2 * P := by omega
  have gv := (g2 i j (by omega) (by omega) (by omega) (by omega)).2
  have hv := (w2 i j (by omega) (by omega) (by omega) (by omega)).2
  rw [← hd] at gv
  rw [show 2 * P + 2 - i - j = d + 2 by omega] at hv
  obtain ⟨b1, b2⟩ := j_b (k := k) (d := d) hw (by omega)
  obtain ⟨B1, B2, B3⟩ := i_Bp w hw
  have id1 := (i_id (k := k) (x := 1) hw (by decide) o5 o6 d i j hdd hk0).1
  have hC := j_C (k := k) (x := 1) hw (by decide) o5 o6 hdd hk0
  have hR : h_V w P k 1 (d + 2) i j ≤ 13000000000000 := Nat.le_trans (h_V9 (by omega) (by omega) _ _ _) (by omega)
  refine ⟨lN ((if p = 0 then g_V w (g_U w k) P k 1 d i j else g_U w k * 10 ^ d) / Nat.gcd (g_V w (g_U w k) P k 1 d i j) (g_U w k * 10 ^ d)), nI P, lN (g_U w k), fc', fl', 0, ch', la', lN (h_B w), ?_, ?_, h⟩
  · unfold f_X6_lasts
    refine Eq.trans (h6 _ _) ?_
    rw [e1, e2, e3, e4]
    refine Eq.trans (p_b4 g1) ?_
    refine Eq.trans (p_b1 (g_at7 (by omega) (by omega) fl')) ?_
    refine Eq.trans (p_b1 (g_bottom o6 (by omega) r fc' fl')) ?_
    rw [gv, ← hd]
    exact p_b1 (i_least6 (by omega) b2 b1 hp)
  · unfold f_X7_lasts
    refine Eq.trans (p_b1 h7) ?_
    rw [if_neg (show ¬ (1 : Int32) = 0 by decide), e1, e2, e3, e4]
    refine Eq.trans (p_b3 w1) ?_
    rw [j_ix, if_neg (p_gd (show 7 * i + j < 49 by omega) (by decide)), p_cl (by omega), hv, j_eq id1 B1 b1]
    exact p_b1 (i_part 0 tc mr pd mp ch' la' se ta fs (by omega) (by omega) B1 hp)
end JZ
