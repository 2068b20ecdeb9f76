/-! likeliest -/
def k_L (w l s : Nat) : Nat := s ^ w * (10 - s) ^ l
def k_best (w l : Nat) : Nat → Nat → Nat → Nat
  | 0, _, b => b
  | m + 1, s, b => k_best w l m (s + 1) (if k_L w l s ≤ k_L w l b then b else s)
theorem k_lt {w l s : Nat} (h : w + l ≤ 18) (h1 : 1 ≤ s) (h9 : s ≤ 9) : k_L w l s < 2 ^ 63 := by
  have a1 : s ^ w ≤ 9 ^ w := Nat.pow_le_pow_left h9 w
  have a2 : (10 - s) ^ l ≤ 9 ^ l := Nat.pow_le_pow_left (by omega) l
  have a3 : k_L w l s ≤ 9 ^ w * 9 ^ l := Nat.mul_le_mul a1 a2
  rw [← Nat.pow_add] at a3
  have a4 : 9 ^ (w + l) ≤ 9 ^ 18 := Nat.pow_le_pow_right (by decide) h
  have a5 : (9 : Nat) ^ 18 < 2 ^ 63 := by decide
  omega
theorem k_loop5 (x2 : Int32) {s w : Nat} (hs : s ≤ 10) (hw : w ≤ 18) : ∀ (m F j a : Nat), j + m = w → m < F → l_X6_likelihood_5 (nI s) (nI w) x2 F (lN a, nI j) = some (lN (a * s ^ m), nI w) := by
  intro m
  induction m with
  | zero =>
    intro F j a hj hF
    obtain ⟨F, rfl⟩ : ∃ F', F = F' + 1 := ⟨F - 1, by omega⟩
    show b_X6_likelihood_5 (l_X6_likelihood_5 (nI s) (nI w) x2 F) (nI s) (nI w) x2 (lN a) (nI j) = _
    unfold b_X6_likelihood_5
    rw [if_pos (nI_le (show w ≤ j by omega) (by omega)), Nat.pow_zero, Nat.mul_one, show j = w by omega]
  | succ m ih =>
    intro F j a hj hF
    obtain ⟨F, rfl⟩ : ∃ F', F = F' + 1 := ⟨F - 1, by omega⟩
    show b_X6_likelihood_5 (l_X6_likelihood_5 (nI s) (nI w) x2 F) (nI s) (nI w) x2 (lN a) (nI j) = _
    unfold b_X6_likelihood_5
    rw [if_neg (nI_ge (show j < w by omega) (by omega)), nI_l (show s < 2 ^ 31 by omega), lN_mul, nI_1, ih F (j + 1) (a * s) (by omega) (by omega), Nat.pow_succ, Nat.mul_assoc, Nat.mul_comm s]
theorem k_ten {s : Nat} (hs : s ≤ 10) : (10 : Int32) - nI s = nI (10 - s) := pk_sub (a := 10) hs
theorem k_loop25 {s l : Nat} (hs : s ≤ 10) (hl : l ≤ 18) : ∀ (m F j a : Nat), j + m = l → m < F → l_X6_likelihood_25 (nI s) (nI l) F (lN a, nI j) = some (lN (a * (10 - s) ^ m), nI l) := by
  intro m
  induction m with
  | zero =>
    intro F j a hj hF
    obtain ⟨F, rfl⟩ : ∃ F', F = F' + 1 := ⟨F - 1, by omega⟩
    show b_X6_likelihood_25 (l_X6_likelihood_25 (nI s) (nI l) F) (nI s) (nI l) (lN a) (nI j) = _
    unfold b_X6_likelihood_25
    rw [if_pos (nI_le (show l ≤ j by omega) (by omega)), Nat.pow_zero, Nat.mul_one, show j = l by omega]
  | succ m ih =>
    intro F j a hj hF
    obtain ⟨F, rfl⟩ : ∃ F', F = F' + 1 := ⟨F - 1, by omega⟩
    show b_X6_likelihood_25 (l_X6_likelihood_25 (nI s) (nI l) F) (nI s) (nI l) (lN a) (nI j) = _
    unfold b_X6_likelihood_25
    rw [if_neg (nI_ge (show j < l by omega) (by omega)), k_ten hs, nI_l (show 10 - s < 2 ^ 31 by omega), lN_mul, nI_1, ih F (j + 1) (a * (10 - s)) (by omega) (by omega), Nat.pow_succ, Nat.mul_assoc, Nat.mul_comm (10 - s)]
theorem k_lik {s w l : Nat} (hs : s ≤ 10) (hw : w ≤ 18) (hl : l ≤ 18) : f_X6_likelihood (nI s) (nI w) (nI l) = some (lN (k_L w l s)) := by
  unfold f_X6_likelihood
  refine Eq.trans (p_b2 (show l_X6_likelihood_5 (nI s) (nI w) (nI l) 1000 (1, 0) = _ from k_loop5 (nI l) hs hw w 1000 0 1 (by omega) (by omega))) ?_
  refine Eq.trans (p_b2 (show l_X6_likelihood_25 (nI s) (nI l) 1000 (_, 0) = _ from k_loop25 hs hl l 1000 0 (1 * s ^ w) (by omega) (by omega))) ?_
  rw [Nat.one_mul]
  rfl
section KCL
variable (r : Nat → Int32) (to : Int32) (un : Int64) (fc fl bg bs : Nat → Int64) (wn pl : Nat → Int32) (tr : Int64)
theorem k_class {w l : Nat} (hwl : w + l ≤ 18) : ∀ (m F s b : Nat), s + m = 10 → 2 ≤ s → m < F → 1 ≤ b → b ≤ 9 → l_X6_likeliest_35 (nI w) (nI l) r to un fc fl bg bs wn pl tr F (nI b, nI s) = some (nI (k_best w l m s b), nI 10) := by
  intro m
  induction m with
  | zero =>
    intro F s b hs h2 hF hb hb9
    obtain ⟨F, rfl⟩ : ∃ F', F = F' + 1 := ⟨F - 1, by omega⟩
    show b_X6_likeliest_35 (l_X6_likeliest_35 (nI w) (nI l) r to un fc fl bg bs wn pl tr F) (nI w) (nI l) (nI b) (nI s) r to un fc fl bg bs wn pl tr = _
    unfold b_X6_likeliest_35
    rw [if_pos (show (9 : Int32) < nI s from nI_lt (show 9 < s by omega) (by omega)), show s = 10 by omega]
    rfl
  | succ m ih =>
    intro F s b hs h2 hF hb hb9
    obtain ⟨F, rfl⟩ : ∃ F', F = F' + 1 := ⟨F - 1, by omega⟩
    show b_X6_likeliest_35 (l_X6_likeliest_35 (nI w) (nI l) r to un fc fl bg bs wn pl tr F) (nI w) (nI l) (nI b) (nI s) r to un fc fl bg bs wn pl tr = _
    unfold b_X6_likeliest_35 b_X6_likeliest_62
    rw [if_neg (show ¬ (9 : Int32) < nI s from nI_nlt (show s ≤ 9 by omega) (by decide))]
    refine Eq.trans (p_b1 (k_lik (by omega) (by omega) (by omega))) ?_
    refine Eq.trans (p_b1 (k_lik (by omega) (by omega) (by omega))) ?_
    rw [nI_1]
    have hc : (lg_cmp (lN (k_L w l s)) (lN (k_L w l b)) ≤ 0) ↔ k_L w l s ≤ k_L w l b := (lg_cmp_le _ _).trans (pk_lLE (k_lt hwl (by omega) (by omega)) (k_lt hwl hb hb9))
    show _ = some (nI (k_best w l m (s + 1) (if k_L w l s ≤ k_L w l b then b else s)), nI 10)
    by_cases c : k_L w l s ≤ k_L w l b
    · rw [if_pos (hc.mpr c), if_pos c]
      exact ih F (s + 1) b (by omega) (by omega) (by omega) hb hb9
    · rw [if_neg (fun z => c (hc.mp z)), if_neg c]
      exact ih F (s + 1) s (by omega) (by omega) (by omega) (by omega) (by omega)
end KCL
section KRF
variable (th : Int32) (tc : Int64) (mr : Nat → Int32) (pd : Int32) (mp : Nat → Int32) (ch la : Nat → Int64) (be : Int64) (se : Nat → Int64) (ta : Nat → Int32) (fs : Int32)
theorem k_loop56 (x2 x3 : Int32) (x4 : Int64) {s w : Nat} (hs : s ≤ 10) (hw : w ≤ 18) : ∀ (m F j a : Nat), j + m = w → m < F → l_X7_likeliest_56 (nI w) x2 x3 x4 (nI s) th tc mr pd mp ch la be se ta fs F (lN a, nI j) = some (lN (a * s ^ m), nI w) := by
  intro m
  induction m with
  | zero =>
    intro F j a hj hF
    obtain ⟨F, rfl⟩ : ∃ F', F = F' + 1 := ⟨F - 1, by omega⟩
    show b_X7_likeliest_56 (l_X7_likeliest_56 (nI w) x2 x3 x4 (nI s) th tc mr pd mp ch la be se ta fs F) (nI w) x2 x3 x4 (nI s) (lN a) (nI j) th tc mr pd mp ch la be se ta fs = _
    unfold b_X7_likeliest_56
    rw [if_pos (nI_le (show w ≤ j by omega) (by omega)), Nat.pow_zero, Nat.mul_one, show j = w by omega]
  | succ m ih =>
    intro F j a hj hF
    obtain ⟨F, rfl⟩ : ∃ F', F = F' + 1 := ⟨F - 1, by omega⟩
    show b_X7_likeliest_56 (l_X7_likeliest_56 (nI w) x2 x3 x4 (nI s) th tc mr pd mp ch la be se ta fs F) (nI w) x2 x3 x4 (nI s) (lN a) (nI j) th tc mr pd mp ch la be se ta fs = _
    unfold b_X7_likeliest_56
    rw [if_neg (nI_ge (show j < w by omega) (by omega)), nI_l (show s < 2 ^ 31 by omega), lN_mul, nI_1, ih F (j + 1) (a * s) (by omega) (by omega), Nat.pow_succ, Nat.mul_assoc, Nat.mul_comm s]
theorem k_loop79 (x1 x3 : Int32) (x4 : Int64) {s l : Nat} (hs : s ≤ 10) (hl : l ≤ 18) : ∀ (m F j a : Nat), j + m = l → m < F → l_X7_likeliest_79 x1 (nI l) x3 x4 (nI s) th tc mr pd mp ch la be se ta fs F (lN a, nI j) = some (lN (a * (10 - s) ^ m), nI l) := by
  intro m
  induction m with
  | zero =>
    intro F j a hj hF
    obtain ⟨F, rfl⟩ : ∃ F', F = F' + 1 := ⟨F - 1, by omega⟩
    show b_X7_likeliest_79 (l_X7_likeliest_79 x1 (nI l) x3 x4 (nI s) th tc mr pd mp ch la be se ta fs F) x1 (nI l) x3 x4 (nI s) (lN a) (nI j) th tc mr pd mp ch la be se ta fs = _
    unfold b_X7_likeliest_79
    rw [if_pos (nI_le (show l ≤ j by omega) (by omega)), Nat.pow_zero, Nat.mul_one, show j = l by omega]
  | succ m ih =>
    intro F j a hj hF
    obtain ⟨F, rfl⟩ : ∃ F', F = F' + 1 := ⟨F - 1, by omega⟩
    show b_X7_likeliest_79 (l_X7_likeliest_79 x1 (nI l) x3 x4 (nI s) th tc mr pd mp ch la be se ta fs F) x1 (nI l) x3 x4 (nI s) (lN a) (nI j) th tc mr pd mp ch la be se ta fs = _
    unfold b_X7_likeliest_79
    rw [if_neg (nI_ge (show j < l by omega) (by omega)), k_ten hs, nI_l (show 10 - s < 2 ^ 31 by omega), lN_mul, nI_1, ih F (j + 1) (a * (10 - s)) (by omega) (by omega), Nat.pow_succ, Nat.mul_assoc, Nat.mul_comm (10 - s)]
/-- one strength of the reference's loop -/
theorem k_step (K : (Int32 × Int64 × Int32) → Option (Int32 × Int64 × Int32)) {w l s b a : Nat} (hwl : w + l ≤ 18) (h1 : 1 ≤ s) (h9 : s ≤ 9) (ha : a < 2 ^ 63) : b_X7_likeliest_43 K (nI w) (nI l) (nI b) (lN a) (nI s) th tc mr pd mp ch la be se ta fs = (if k_L w l s ≤ a then K (nI b, lN a, nI (s + 1)) else K (nI s, lN (k_L w l s), nI (s + 1))) := by
  unfold b_X7_likeliest_43 b_X7_likeliest_117
  rw [if_neg (show ¬ (10 : Int32) ≤ nI s from nI_ge (show s < 10 by omega) (by decide))]
  refine Eq.trans (p_b2 (show l_X7_likeliest_56 (nI w) (nI l) (nI b) (lN a) (nI s) th tc mr pd mp ch la be se ta fs 1000 (1, 0) = _ from k_loop56 th tc mr pd mp ch la be se ta fs (nI l) (nI b) (lN a) (by omega) (by omega) w 1000 0 1 (by omega) (by omega))) ?_
  refine Eq.trans (p_b2 (show l_X7_likeliest_79 (nI w) (nI l) (nI b) (lN a) (nI s) th tc mr pd mp ch la be se ta fs 1000 (_, 0) = _ from k_loop79 th tc mr pd mp ch la be se ta fs (nI w) (nI b) (lN a) (by omega) (by omega) l 1000 0 (1 * s ^ w) (by omega) (by omega))) ?_
  rw [Nat.one_mul, show s ^ w * (10 - s) ^ l = k_L w l s from rfl, nI_1]
  have hc : (lg_cmp (lN (k_L w l s)) (lN a) ≤ 0) ↔ k_L w l s ≤ a := (lg_cmp_le _ _).trans (pk_lLE (k_lt hwl h1 h9) ha)
  by_cases c : k_L w l s ≤ a
  · rw [if_pos (hc.mpr c), if_pos c]
  · rw [if_neg (fun z => c (hc.mp z)), if_neg c]
theorem k_ref {w l : Nat} (hwl : w + l ≤ 18) : ∀ (m F s b : Nat), s + m = 10 → 1 ≤ s → m < F → 1 ≤ b → b ≤ 9 → ∃ y : Int64, l_X7_likeliest_43 (nI w) (nI l) th tc mr pd mp ch la be se ta fs F (nI b, lN (k_L w l b), nI s) = some (nI (k_best w l m s b), y, nI 10) := by
  intro m
  induction m with
  | zero =>
    intro F s b hs h1 hF hb hb9
    obtain ⟨F, rfl⟩ : ∃ F', F = F' + 1 := ⟨F - 1, by omega⟩
    refine ⟨lN (k_L w l b), ?_⟩
    show b_X7_likeliest_43 (l_X7_likeliest_43 (nI w) (nI l) th tc mr pd mp ch la be se ta fs F) (nI w) (nI l) (nI b) (lN (k_L w l b)) (nI s) th tc mr pd mp ch la be se ta fs = _
    unfold b_X7_likeliest_43
    rw [if_pos (show (10 : Int32) ≤ nI s from nI_le (show 10 ≤ s by omega) (by omega)), show s = 10 by omega]
    rfl
  | succ m ih =>
    intro F s b hs h1 hF hb hb9
    obtain ⟨F, rfl⟩ : ∃ F', F = F' + 1 := ⟨F - 1, by omega⟩
    have e := k_step th tc mr pd mp ch la be se ta fs (l_X7_likeliest_43 (nI w) (nI l) th tc mr pd mp ch la be se ta fs F) (b := b) hwl h1 (show s ≤ 9 by omega) (k_lt hwl hb hb9)
    by_cases c : k_L w l s ≤ k_L w l b
    · rw [if_pos c] at e
      obtain ⟨y, hy⟩ := ih F (s + 1) b (by omega) (by omega) (by omega) hb hb9
      refine ⟨y, Eq.trans e (Eq.trans hy ?_)⟩
      show _ = some (nI (k_best w l m (s + 1) (if k_L w l s ≤ k_L w l b then b else s)), y, nI 10)
      rw [if_pos c]
    · rw [if_neg c] at e
      obtain ⟨y, hy⟩ := ih F (s + 1) s (by omega) (by omega) (by omega) (by omega) (by omega)
      refine ⟨y, Eq.trans e (Eq.trans hy ?_)⟩
      show _ = some (nI (k_best w l m (s + 1) (if k_L w l s ≤ k_L w l b then b else s)), y, nI 10)
      rw [if_neg c]
end KRF
section KZL
variable (r : Nat → Int32) (to : Int32) (un : Int64) (fc fl bg bs : Nat → Int64) (wn pl : Nat → Int32) (tr : Int64) (th : Int32) (tc : Int64) (mr : Nat → Int32) (pd : Int32) (mp : Nat → Int32) (ch la : Nat → Int64) (be : Int64) (se : Nat → Int64) (ta : Nat → Int32) (fs : Int32)
theorem z_likeliest (x1 x2 : Int32) (h : z_I r wn pl tr tc mr pd mp ta fs) : ∃ (v : Int32) (th' : Int32), f_X6_likeliest x1 x2 r to un fc fl bg bs wn pl tr = some v ∧ f_X7_likeliest x1 x2 th tc mr pd mp ch la be se ta fs = some (v, th') ∧ z_I r wn pl tr tc mr pd mp ta fs := by
  rcases p_within x1 (a := 0) (n := 18) (by decide) (by decide) with ⟨h6, h7⟩ | ⟨w, -, hw, e1, h6, h7⟩
  · refine ⟨-1, 0, ?_, ?_, h⟩
    · unfold f_X6_likeliest
      exact p_b1 (show f_X6_within x1 0 18 = some 0 from h6)
    · unfold f_X7_likeliest
      exact p_b1 (show f_X7_in x1 0 18 = some 0 from h7)
  rcases p_within x2 (a := 0) (n := 18) (by decide) (by decide) with ⟨i6, i7⟩ | ⟨l, -, hl, e2, i6, i7⟩
  · refine ⟨-1, 0, ?_, ?_, h⟩
    · unfold f_X6_likeliest
      refine Eq.trans (p_b1 (show f_X6_within x1 0 18 = some 1 from h6)) ?_
      rw [if_neg (show ¬ (1 : Int32) = 0 by decide)]
      exact p_b1 (show f_X6_within x2 0 18 = some 0 from i6)
    · unfold f_X7_likeliest
      refine Eq.trans (p_b1 (show f_X7_in x1 0 18 = some 1 from h7)) ?_
      rw [if_neg (show ¬ (1 : Int32) = 0 by decide)]
      exact p_b1 (show f_X7_in x2 0 18 = some 0 from i7)
  have hA : f_X6_likeliest x1 x2 r to un fc fl bg bs wn pl tr = (if w + l ≤ 18 then q_b2 (l_X6_likeliest_35 (nI w) (nI l) r to un fc fl bg bs wn pl tr 1000 (1, 2)) (fun y14 y15 => some y14) else some (-1)) := by
    unfold f_X6_likeliest
    refine Eq.trans (p_b1 (show f_X6_within x1 0 18 = some 1 from h6)) ?_
    rw [if_neg (show ¬ (1 : Int32) = 0 by decide)]
    refine Eq.trans (p_b1 (show f_X6_within x2 0 18 = some 1 from i6)) ?_
    rw [if_neg (show ¬ (1 : Int32) = 0 by decide), e1, e2, nI_add]
    by_cases c : w + l ≤ 18
    · rw [if_pos (show nI (w + l) ≤ 18 from nI_le c (by decide)), if_pos c]
    · rw [if_neg (show ¬ nI (w + l) ≤ 18 from nI_ge (show 18 < w + l by omega) (by omega)), if_neg c]
  have hB : f_X7_likeliest x1 x2 th tc mr pd mp ch la be se ta fs = (if w + l ≤ 18 then q_b3 (l_X7_likeliest_43 (nI w) (nI l) 0 tc mr pd mp ch la be se ta fs 1000 (0, 0, 1)) (fun y18 y19 y20 => some (y18, 0)) else some (-1, 0)) := by
    unfold f_X7_likeliest
    refine Eq.trans (p_b1 (show f_X7_in x1 0 18 = some 1 from h7)) ?_
    rw [if_neg (show ¬ (1 : Int32) = 0 by decide)]
    refine Eq.trans (p_b1 (show f_X7_in x2 0 18 = some 1 from i7)) ?_
    rw [if_neg (show ¬ (1 : Int32) = 0 by decide), e1, e2, nI_add]
    by_cases c : w + l ≤ 18
    · rw [if_pos (show nI (w + l) ≤ 18 from nI_le c (by decide)), if_pos c]
    · rw [if_neg (show ¬ nI (w + l) ≤ 18 from nI_ge (show 18 < w + l by omega) (by omega)), if_neg c]
  rw [hA, hB]
  by_cases c : w + l ≤ 18
  · rw [if_pos c, if_pos c]
    obtain ⟨y, hy⟩ := k_ref 0 tc mr pd mp ch la be se ta fs c 8 999 2 1 (by omega) (by omega) (by omega) (by omega) (by omega)
    have hpos : ¬ k_L w l 1 ≤ 0 := by
      have : 0 < k_L w l 1 := Nat.mul_pos (Nat.pow_pos (by decide)) (Nat.pow_pos (by decide))
      omega
    have e := k_step 0 tc mr pd mp ch la be se ta fs (l_X7_likeliest_43 (nI w) (nI l) 0 tc mr pd mp ch la be se ta fs 999) (b := 0) (s := 1) (a := 0) c (by omega) (by omega) (by decide)
    rw [if_neg hpos] at e
    refine ⟨nI (k_best w l 8 2 1), 0, ?_, ?_, h⟩
    · exact p_b2 (show l_X6_likeliest_35 (nI w) (nI l) r to un fc fl bg bs wn pl tr 1000 (1, 2) = _ from k_class r to un fc fl bg bs wn pl tr c 8 1000 2 1 (by omega) (by omega) (by omega) (by omega) (by omega))
    · exact p_b3 (show l_X7_likeliest_43 (nI w) (nI l) 0 tc mr pd mp ch la be se ta fs 1000 (0, 0, 1) = _ from Eq.trans e hy)
  · rw [if_neg c, if_neg c]
    exact ⟨-1, 0, rfl, rfl, h⟩
end KZL
