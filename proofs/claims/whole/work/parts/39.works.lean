/-! the reference's rows of chances and lengths, in numbers -/
def h_e (s : Nat) : Nat := s * s + (10 - s) * (10 - s)
def h_B (s : Nat) : Nat := 1000000000 * h_e s
/-- near the top of a plain game: closed forms -/
def h_F (s x i j : Nat) : Nat :=
  if x = 0 then (if i = j then s * s * 1000000000 else if i ≤ j then s * s * s * 100000000 else (s * h_e s + (10 - s) * s * s) * 100000000)
  else (if i = j then 200000000000 else if i ≤ j then (10 * h_e s + 200 * s) * 100000000 else (10 * h_e s + 200 * (10 - s)) * 100000000)
def h_V (s P k x : Nat) : Nat → Nat → Nat → Nat
  | 0, i, j => if s_won P k i j = 0 then (if k = 0 ∧ P ≤ i + 1 ∧ P ≤ j + 1 then h_F s x i j else 0) else if s_won P k i j = 1 then (1 - x) * h_B s else 0
  | d + 1, i, j => if s_won P k i j = 0 then (if k = 0 ∧ P ≤ i + 1 ∧ P ≤ j + 1 then h_F s x i j else x * h_B s + (s * h_V s P k x d (i + 1) j + (10 - s) * h_V s P k x d i (j + 1)) / 10) else if s_won P k i j = 1 then (1 - x) * h_B s else 0
theorem h_Vn {s P k x d i j : Nat} (h : s_won P k i j ≠ 0) : h_V s P k x d i j = if s_won P k i j = 1 then (1 - x) * h_B s else 0 := by
  cases d with
  | zero => exact if_neg h
  | succ d => exact if_neg h
theorem h_Vc {s P k x d i j : Nat} (h : s_won P k i j = 0) (hc : k = 0 ∧ P ≤ i + 1 ∧ P ≤ j + 1) : h_V s P k x d i j = h_F s x i j := by
  cases d with
  | zero => exact (if_pos h).trans (if_pos hc)
  | succ d => exact (if_pos h).trans (if_pos hc)
theorem h_Vs {s P k x d i j : Nat} (h : s_won P k i j = 0) (hc : ¬ (k = 0 ∧ P ≤ i + 1 ∧ P ≤ j + 1)) : h_V s P k x (d + 1) i j = x * h_B s + (s * h_V s P k x d (i + 1) j + (10 - s) * h_V s P k x d i (j + 1)) / 10 := (if_pos h).trans (if_neg hc)
theorem h_e9 {s : Nat} (hs : s ≤ 9) : h_e s ≤ 181 := by
  have h1 : s * s ≤ 9 * 9 := Nat.mul_le_mul hs hs
  have h2 : (10 - s) * (10 - s) ≤ 10 * 10 := Nat.mul_le_mul (by omega) (by omega)
  unfold h_e
  omega
theorem h_F9 {s x i j : Nat} (hs : s ≤ 9) : h_F s x i j ≤ 1000000000000 := by
  have h0 := h_e9 hs
  have h1 : s * s ≤ 9 * 9 := Nat.mul_le_mul hs hs
  have h2 : s * s * s ≤ 9 * 9 * 9 := Nat.mul_le_mul h1 hs
  have h3 : s * h_e s ≤ 9 * 181 := Nat.mul_le_mul hs h0
  have h4 : (10 - s) * s ≤ 10 * 9 := Nat.mul_le_mul (by omega) hs
  have h5 : (10 - s) * s * s ≤ 10 * 9 * 9 := Nat.mul_le_mul h4 hs
  unfold h_F
  repeat' split
  all_goals omega
theorem h_V9 {s P k x : Nat} (hs : s ≤ 9) (hx : x ≤ 1) : ∀ (d i j : Nat), h_V s P k x d i j ≤ 1000000000000 * (d + 1) := by
  have h0 := h_e9 hs
  have hB : h_B s ≤ 181000000000 := by unfold h_B; omega
  have h1x : (1 - x) * h_B s ≤ 1 * h_B s := Nat.mul_le_mul_right _ (by omega)
  have h2x : x * h_B s ≤ 1 * h_B s := Nat.mul_le_mul_right _ hx
  intro d
  induction d with
  | zero =>
    intro i j
    have hF := @h_F9 s x i j hs
    show (if s_won P k i j = 0 then (if k = 0 ∧ P ≤ i + 1 ∧ P ≤ j + 1 then h_F s x i j else 0) else if s_won P k i j = 1 then (1 - x) * h_B s else 0) ≤ _
    repeat' split
    all_goals omega
  | succ d ih =>
    intro i j
    have hF := @h_F9 s x i j hs
    have a1 : s * h_V s P k x d (i + 1) j ≤ s * (1000000000000 * (d + 1)) := Nat.mul_le_mul_left _ (ih _ _)
    have a2 : (10 - s) * h_V s P k x d i (j + 1) ≤ (10 - s) * (1000000000000 * (d + 1)) := Nat.mul_le_mul_left _ (ih _ _)
    have a3 : s * (1000000000000 * (d + 1)) + (10 - s) * (1000000000000 * (d + 1)) = 10 * (1000000000000 * (d + 1)) := by rw [← Nat.add_mul, show s + (10 - s) = 10 by omega]
    show (if s_won P k i j = 0 then (if k = 0 ∧ P ≤ i + 1 ∧ P ≤ j + 1 then h_F s x i j else x * h_B s + (s * h_V s P k x d (i + 1) j + (10 - s) * h_V s P k x d i (j + 1)) / 10) else if s_won P k i j = 1 then (1 - x) * h_B s else 0) ≤ _
    repeat' split
    all_goals omega
theorem h_in (j m : Nat) (hj : j < 2 ^ 31) (hm : m < 2 ^ 31) : f_X7_in (nI j) 0 (nI m) = some (nI (if j ≤ m then 1 else 0)) := by
  unfold f_X7_in b_X7_in_14
  rw [if_neg (nI_pos hj)]
  by_cases c : j ≤ m
  · rw [if_neg (nI_nlt c hm), if_pos c]; rfl
  · rw [if_pos (nI_lt (by omega) hj), if_neg c]; rfl
/-- what the reference's rows hold: all of sum over n, and those of sum n before i -/
def h_In (s P k n i : Nat) (ch la : Nat → Int64) : Prop :=
  ∀ i' j' : Nat, i' ≤ P + 1 → j' ≤ P + 1 → (i' ≤ P ∨ j' ≤ P ∨ k = 0) → (n < i' + j' ∨ (i' + j' = n ∧ i' < i)) → ch (7 * i' + j') = lN (h_V s P k 0 (2 * P + 2 - i' - j') i' j') ∧ la (7 * i' + j') = lN (h_V s P k 1 (2 * P + 2 - i' - j') i' j')
section HWK
variable (th : Int32) (tc : Int64) (mr : Nat → Int32) (pd : Int32) (mp : Nat → Int32) (ch la : Nat → Int64) (be : Int64) (se : Nat → Int64) (ta : Nat → Int32) (fs : Int32)
theorem h_136 (K : (Int32 × (Nat → Int64) × (Nat → Int64)) → Option (Int32 × (Nat → Int64) × (Nat → Int64))) (x2 x3 x4 : Int32) (x5 : Int64) (x7 x8 : Int32) (v : Int64) {q : Nat} (hq : q < 49) : b_X7_works_136 K x2 x3 x4 x5 x7 x8 (nI q) v (nI q) th tc mr pd mp ch la be se ta fs = K (x8 + 1, vp_updL ch q v, vp_updL la q 0) := by
  unfold b_X7_works_136 b_X7_works_381
  rw [if_neg (p_gd hq (by decide)), if_neg (p_gd hq (by decide)), p_cl (by omega)]
theorem h_235 (K : (Int32 × (Nat → Int64) × (Nat → Int64)) → Option (Int32 × (Nat → Int64) × (Nat → Int64))) (x2 : Int32) (x7 : Int32) (v : Int64) {s q i j : Nat} (hs : s ≤ 9) (hi : i ≤ 6) (hj : j ≤ 6) (hq : q < 49) : b_X7_works_235 K x2 (nI s) (nI (10 - s)) (lN (h_e s)) x7 (nI i) (nI j) (nI q) v (nI q) th tc mr pd mp ch la be se ta fs = K (nI i + 1, vp_updL ch q v, vp_updL la q (lN (h_F s 1 i j))) := by
  have h284 : ∀ w : Int64, b_X7_works_284 K x2 (nI s) (nI (10 - s)) (lN (h_e s)) x7 (nI i) w (nI q) th tc mr pd mp (vp_updL ch q v) la be se ta fs = K (nI i + 1, vp_updL ch q v, vp_updL la q w) := by
    intro w
    unfold b_X7_works_284 b_X7_works_381
    rw [if_neg (p_gd hq (by decide)), p_cl (by omega)]
  unfold b_X7_works_235 b_X7_works_277
  rw [if_neg (p_gd hq (by decide)), p_cl (by omega)]
  by_cases c : i = j
  · rw [if_pos (congrArg nI c)]
    refine Eq.trans (h284 _) ?_
    rw [show h_F s 1 i j = 200000000000 from by unfold h_F; rw [if_neg (by decide), if_pos c]]
    rfl
  · rw [if_neg (fun z => c ((nI_eq (by omega) (by omega)).mp z))]
    by_cases c2 : i ≤ j
    · rw [if_pos (nI_le c2 (by omega))]
      refine Eq.trans (h284 _) ?_
      rw [show h_F s 1 i j = (10 * h_e s + 200 * s) * 100000000 from by unfold h_F; rw [if_neg (by decide), if_neg c, if_pos c2], nI_l (by omega)]
      rw [← lN_mul, ← lN_add, ← lN_mul, ← lN_mul]
      rfl
    · rw [if_neg (nI_ge (by omega) (by omega))]
      refine Eq.trans (h284 _) ?_
      rw [show h_F s 1 i j = (10 * h_e s + 200 * (10 - s)) * 100000000 from by unfold h_F; rw [if_neg (by decide), if_neg c, if_neg c2], nI_l (by omega)]
      rw [← lN_mul, ← lN_add, ← lN_mul, ← lN_mul]
      rfl
theorem h_288 (K : (Int32 × (Nat → Int64) × (Nat → Int64)) → Option (Int32 × (Nat → Int64) × (Nat → Int64))) (x5 : Int64) (x7 : Int32) {s P i j a b a' b' B : Nat} (hs : s ≤ 9) (hP : P ≤ 5) (hi : i ≤ P) (hj : j ≤ P) (e1 : ch (7 * (i + 1) + j) = lN a) (e2 : ch (7 * i + (j + 1)) = lN b) (e3 : la (7 * (i + 1) + j) = lN a') (e4 : la (7 * i + (j + 1)) = lN b') (ha : a ≤ 13000000000000) (hb : b ≤ 13000000000000) (ha' : a' ≤ 13000000000000) (hb' : b' ≤ 13000000000000) : b_X7_works_288 K (nI P) (nI s) (nI (10 - s)) x5 x7 (nI i) (nI j) (nI (7 * i + j)) th tc mr pd mp ch la (lN B) se ta fs = K (nI i + 1, vp_updL ch (7 * i + j) (lN ((s * a + (10 - s) * b) / 10)), vp_updL la (7 * i + j) (lN (B + (s * a' + (10 - s) * b') / 10))) := by
  have m1 : s * a ≤ 9 * 13000000000000 := Nat.mul_le_mul hs ha
  have m2 : (10 - s) * b ≤ 10 * 13000000000000 := Nat.mul_le_mul (by omega) hb
  have m3 : s * a' ≤ 9 * 13000000000000 := Nat.mul_le_mul hs ha'
  have m4 : (10 - s) * b' ≤ 10 * 13000000000000 := Nat.mul_le_mul (by omega) hb'
  unfold b_X7_works_288 b_X7_works_381
  rw [if_neg (nI_nlt hi (by omega)), if_neg (nI_nlt hj (by omega)), show nI (7 * i + j) + 7 = nI (7 * (i + 1) + j) from by rw [show 7 * (i + 1) + j = 7 * i + j + 7 by omega]; exact nI_add _ 7, show nI (7 * i + j) + 1 = nI (7 * i + (j + 1)) from nI_1 _]
  rw [if_neg (p_gd (show 7 * (i + 1) + j < 49 by omega) (by decide)), if_neg (p_gd (show 7 * i + (j + 1) < 49 by omega) (by decide)), if_neg (p_gd (show 7 * i + j < 49 by omega) (by decide)), if_neg (p_gd (show 7 * (i + 1) + j < 49 by omega) (by decide)), if_neg (p_gd (show 7 * i + (j + 1) < 49 by omega) (by decide)), if_neg (p_gd (show 7 * i + j < 49 by omega) (by decide))]
  rw [p_cl (show 7 * (i + 1) + j < 2 ^ 31 by omega), p_cl (show 7 * i + (j + 1) < 2 ^ 31 by omega), p_cl (show 7 * i + j < 2 ^ 31 by omega), e1, e2, e3, e4, nI_l (show s < 2 ^ 31 by omega), nI_l (show 10 - s < 2 ^ 31 by omega), lN_mul, lN_mul, lN_mul, lN_mul, lN_add, lN_add]
  rw [show lN (s * a + (10 - s) * b) / (10 : Int64) = lN ((s * a + (10 - s) * b) / 10) from pk_lDiv (b := 10) (by omega) (by decide) (by decide), show lN (s * a' + (10 - s) * b') / (10 : Int64) = lN ((s * a' + (10 - s) * b') / 10) from pk_lDiv (b := 10) (by omega) (by decide) (by decide), lN_add]
theorem h_288s (K : (Int32 × (Nat → Int64) × (Nat → Int64)) → Option (Int32 × (Nat → Int64) × (Nat → Int64))) (x3 x4 : Int32) (x5 : Int64) (x7 x10 : Int32) {P i j : Nat} (hi6 : i ≤ 6) (hj6 : j ≤ 6) (h : P < i ∨ P < j) : b_X7_works_288 K (nI P) x3 x4 x5 x7 (nI i) (nI j) x10 th tc mr pd mp ch la be se ta fs = K (nI i + 1, ch, la) := by
  unfold b_X7_works_288 b_X7_works_381
  by_cases c : P < i
  · rw [if_pos (nI_lt c (by omega))]
  · rw [if_neg (nI_nlt (by omega) (by omega)), if_pos (nI_lt (show P < j by omega) (by omega))]
theorem h_cell (K : (Int32 × (Nat → Int64) × (Nat → Int64)) → Option (Int32 × (Nat → Int64) × (Nat → Int64))) {s P k n i : Nat} (hm2 : mr 2 = nI P) (hm6 : mr 6 = nI k) (hs : s ≤ 9) (hP1 : 1 ≤ P) (hP5 : P ≤ 5) (hk : k ≤ 2) (hn : n ≤ 2 * P + 2) (hi : i ≤ P + 1) (hI : h_In s P k n i ch la) : ∃ (ch' la' : Nat → Int64), b_X7_works_57 K (nI P) (nI s) (nI (10 - s)) (lN (h_e s)) (nI n) (nI i) th tc mr pd mp ch la (lN (h_B s)) se ta fs = K (nI (i + 1), ch', la') ∧ h_In s P k n (i + 1) ch' la' := by
  unfold b_X7_works_57
  rw [nI_1 P, if_neg (nI_nlt (show i ≤ P + 1 by omega) (by omega))]
  have hskip : (n < i ∨ P + 1 < n - i) → h_In s P k n (i + 1) ch la := by
    intro c i' j' h1 h2 h3 h4
    exact hI i' j' h1 h2 h3 (by omega)
  by_cases c1 : n < i
  · refine ⟨ch, la, ?_, hskip (Or.inl c1)⟩
    refine Eq.trans (p_b1 (a := 0) ?_) ?_
    · unfold f_X7_in b_X7_in_14
      rw [if_pos (pk_sneg (by omega) c1)]
    · rw [if_pos rfl]
      unfold b_X7_works_381
      rw [nI_1]
  obtain ⟨j, hj⟩ : ∃ j, n = i + j := ⟨n - i, by omega⟩
  subst hj
  rw [pk_sub (show i ≤ i + j by omega), show i + j - i = j by omega]
  by_cases c2 : P + 1 < j
  · refine ⟨ch, la, ?_, hskip (Or.inr (by omega))⟩
    refine Eq.trans (p_b1 (h_in j (P + 1) (by omega) (by omega))) ?_
    rw [if_neg (show ¬ j ≤ P + 1 by omega), if_pos (show nI 0 = (0 : Int32) from rfl)]
    unfold b_X7_works_381
    rw [nI_1]
  have hj : j ≤ P + 1 := by omega
  have hnew : ∀ a b : Int64, ((i ≤ P ∨ j ≤ P ∨ k = 0) → a = lN (h_V s P k 0 (2 * P + 2 - i - j) i j) ∧ b = lN (h_V s P k 1 (2 * P + 2 - i - j) i j)) → h_In s P k (i + j) (i + 1) (vp_updL ch (7 * i + j) a) (vp_updL la (7 * i + j) b) := by
    intro a b hab i' j' h1 h2 h3 h4
    by_cases e : i' = i
    · subst e
      have e2 : j' = j ∨ i' + j < i' + j' := by omega
      rcases e2 with e2 | e2
      · subst e2
        rw [pk_uLs, pk_uLs]
        exact hab h3
      · rw [pk_uLn (show 7 * i' + j' ≠ 7 * i' + j by omega), pk_uLn (show 7 * i' + j' ≠ 7 * i' + j by omega)]
        exact hI i' j' h1 h2 h3 (by omega)
    · rw [pk_uLn (show 7 * i' + j' ≠ 7 * i + j by omega), pk_uLn (show 7 * i' + j' ≠ 7 * i + j by omega)]
      exact hI i' j' h1 h2 h3 (by omega)
  have hx : (7 : Int32) * nI i + nI j = nI (7 * i + j) := by
    rw [show (7 : Int32) * nI i = nI (7 * i) from pk_mul 7 i, nI_add]
  have hq : 7 * i + j < 49 := by omega
  have hww : s * s ≤ 9 * 9 := Nat.mul_le_mul hs hs
  have hwww : s * s * s ≤ 9 * 9 * 9 := Nat.mul_le_mul hww hs
  have h4 : (10 - s) * s ≤ 10 * 9 := Nat.mul_le_mul (by omega) hs
  have h5 : (10 - s) * s * s ≤ 10 * 9 * 9 := Nat.mul_le_mul h4 hs
  have h2 := g_won2 P k i j
  have goal0 : ∀ (X : Option (Int32 × (Nat → Int64) × (Nat → Int64))) (a b : Int64), X = K (nI (i + 1), vp_updL ch (7 * i + j) a, vp_updL la (7 * i + j) b) → ((i ≤ P ∨ j ≤ P ∨ k = 0) → a = lN (h_V s P k 0 (2 * P + 2 - i - j) i j) ∧ b = lN (h_V s P k 1 (2 * P + 2 - i - j) i j)) → ∃ (ch' la' : Nat → Int64), X = K (nI (i + 1), ch', la') ∧ h_In s P k (i + j) (i + 1) ch' la' := fun X a b q1 q2 => ⟨_, _, q1, hnew a b q2⟩
  rw [hx, p_b1 (h_in j (P + 1) (by omega) (by omega)), if_pos hj, if_neg (show ¬ nI 1 = (0 : Int32) by decide), p_b1 (show f_X7_wonOf (mr 6) (nI i) (nI j) th tc mr pd mp ch la (lN (h_B s)) se ta fs = some (nI (s_won P k i j)) from by rw [hm6]; exact p_wo th tc mr pd mp ch la (lN (h_B s)) se ta fs hm2 hP1 hP5 hk (by omega) (by omega))]
  by_cases c0 : s_won P k i j = 0
  · rw [c0, if_pos (show nI 0 ≤ (0 : Int32) by decide), show nI P - 1 = nI (P - 1) from pk_sub (b := 1) hP1, hm6]
    have go288 : ¬ (k = 0 ∧ P ≤ i + 1 ∧ P ≤ j + 1) → ∃ (ch' la' : Nat → Int64), b_X7_works_288 K (nI P) (nI s) (nI (10 - s)) (lN (h_e s)) (nI (i + j)) (nI i) (nI j) (nI (7 * i + j)) th tc mr pd mp ch la (lN (h_B s)) se ta fs = K (nI (i + 1), ch', la') ∧ h_In s P k (i + j) (i + 1) ch' la' := by
      intro hc
      by_cases ca : i ≤ P ∧ j ≤ P
      · obtain ⟨ca, cb⟩ := ca
        obtain ⟨a1, a2⟩ := hI (i + 1) j (by omega) (by omega) (by omega) (by omega)
        obtain ⟨b1, b2⟩ := hI i (j + 1) (by omega) (by omega) (by omega) (by omega)
        obtain ⟨d, hd⟩ : ∃ d, 2 * P + 2 - i - j = d + 1 := ⟨2 * P + 1 - i - j, by omega⟩
        rw [show 2 * P + 2 - (i + 1) - j = d by omega] at a1 a2
        rw [show 2 * P + 2 - i - (j + 1) = d by omega] at b1 b2
        have bb : ∀ x i j, x ≤ 1 → h_V s P k x d i j ≤ 13000000000000 := fun x i j hx => Nat.le_trans (h_V9 hs hx d i j) (by omega)
        refine goal0 _ _ _ (Eq.trans (h_288 th tc mr pd mp ch la se ta fs K (lN (h_e s)) (nI (i + j)) hs hP5 ca cb a1 b1 a2 b2 (bb _ _ _ (by omega)) (bb _ _ _ (by omega)) (bb _ _ _ (by omega)) (bb _ _ _ (by omega))) (by rw [nI_1])) (fun _ => ?_)
        rw [hd, h_Vs c0 hc, h_Vs c0 hc, Nat.zero_mul, Nat.zero_add, Nat.one_mul]
        exact ⟨rfl, rfl⟩
      · have hno : ¬ (i ≤ P ∨ j ≤ P ∨ k = 0) := by
          intro z
          unfold s_won at c0
          repeat' split at c0
          all_goals omega
        refine ⟨ch, la, ?_, fun i' j' h1 h2 h3 h4 => hI i' j' h1 h2 h3 (by omega)⟩
        rw [h_288s th tc mr pd mp ch la _ se ta fs K _ _ _ _ _ (by omega) (by omega) (by omega), nI_1]
    by_cases d1 : i < P - 1
    · rw [if_pos (nI_lt d1 (by omega))]
      exact go288 (by omega)
    · rw [if_neg (nI_nlt (by omega) (by omega))]
      by_cases d2 : j < P - 1
      · rw [if_pos (nI_lt d2 (by omega))]
        exact go288 (by omega)
      · rw [if_neg (nI_nlt (by omega) (by omega))]
        by_cases ck : k = 0
        · rw [if_pos (show nI k = 0 by rw [ck]; rfl)]
          have hc : k = 0 ∧ P ≤ i + 1 ∧ P ≤ j + 1 := by omega
          have e1 : h_V s P k 0 (2 * P + 2 - i - j) i j = h_F s 0 i j := h_Vc c0 hc
          have e2 : h_V s P k 1 (2 * P + 2 - i - j) i j = h_F s 1 i j := h_Vc c0 hc
          by_cases cij : i = j
          · rw [if_pos (congrArg nI cij)]
            refine goal0 _ _ _ (Eq.trans (h_235 th tc mr pd mp ch la (lN (h_B s)) se ta fs K (nI P) (nI (i + j)) _ hs (by omega) (by omega) hq) (by rw [nI_1])) (fun _ => ⟨?_, by rw [e2]⟩)
            rw [e1, show h_F s 0 i j = s * s * 1000000000 from by unfold h_F; rw [if_pos rfl, if_pos cij], pk_mul, nI_l (by omega), ← lN_mul (s * s) 1000000000]
            rfl
          · rw [if_neg (fun z => cij ((nI_eq (by omega) (by omega)).mp z))]
            by_cases cle : i ≤ j
            · rw [if_pos (nI_le cle (by omega))]
              refine goal0 _ _ _ (Eq.trans (h_235 th tc mr pd mp ch la (lN (h_B s)) se ta fs K (nI P) (nI (i + j)) _ hs (by omega) (by omega) hq) (by rw [nI_1])) (fun _ => ⟨?_, by rw [e2]⟩)
              rw [e1, show h_F s 0 i j = s * s * s * 100000000 from by unfold h_F; rw [if_pos rfl, if_neg cij, if_pos cle], pk_mul, pk_mul, nI_l (by omega), ← lN_mul (s * s * s) 100000000]
              rfl
            · rw [if_neg (nI_ge (by omega) (by omega))]
              refine goal0 _ _ _ (Eq.trans (h_235 th tc mr pd mp ch la (lN (h_B s)) se ta fs K (nI P) (nI (i + j)) _ hs (by omega) (by omega) hq) (by rw [nI_1])) (fun _ => ⟨?_, by rw [e2]⟩)
              rw [e1, show h_F s 0 i j = (s * h_e s + (10 - s) * s * s) * 100000000 from by unfold h_F; rw [if_pos rfl, if_neg cij, if_neg cle], pk_mul, pk_mul, nI_l (show s < 2 ^ 31 by omega), nI_l (by omega), ← lN_mul (s * h_e s + (10 - s) * s * s), ← lN_add, ← lN_mul s]
              rfl
        · rw [if_neg (show ¬ nI k = 0 from fun z => ck ((nI_eq (b := 0) (by omega) (by decide)).mp z))]
          exact go288 (by omega)
  · rw [if_neg (show ¬ nI (s_won P k i j) ≤ 0 from nI_nle (by omega) (by omega))]
    by_cases c1 : s_won P k i j = 1
    · rw [if_pos (show nI (s_won P k i j) = 1 by rw [c1]; rfl)]
      refine goal0 _ _ _ (Eq.trans (h_136 th tc mr pd mp ch la (lN (h_B s)) se ta fs K (nI P) (nI s) (nI (10 - s)) (lN (h_e s)) (nI (i + j)) (nI i) _ hq) (by rw [nI_1])) (fun _ => ?_)
      rw [h_Vn c0, h_Vn c0, if_pos c1, if_pos c1, Nat.sub_zero, Nat.one_mul, Nat.sub_self, Nat.zero_mul]
      exact ⟨rfl, rfl⟩
    · rw [if_neg (show ¬ nI (s_won P k i j) = 1 from fun z => c1 ((nI_eq (b := 1) (by omega) (by decide)).mp z))]
      refine goal0 _ _ _ (Eq.trans (h_136 th tc mr pd mp ch la (lN (h_B s)) se ta fs K (nI P) (nI s) (nI (10 - s)) (lN (h_e s)) (nI (i + j)) (nI i) _ hq) (by rw [nI_1])) (fun _ => ?_)
      rw [h_Vn c0, h_Vn c0, if_neg c1, if_neg c1]
      exact ⟨rfl, rfl⟩
end HWK
section HWL
variable (th : Int32) (tc : Int64) (mr : Nat → Int32) (pd : Int32) (mp : Nat → Int32) (se : Nat → Int64) (ta : Nat → Int32) (fs : Int32)
theorem h_inner {s P k n : Nat} (hm2 : mr 2 = nI P) (hm6 : mr 6 = nI k) (hs : s ≤ 9) (hP1 : 1 ≤ P) (hP5 : P ≤ 5) (hk : k ≤ 2) (hn : n ≤ 2 * P + 2) : ∀ (m F i : Nat) (ch la : Nat → Int64), i + m = P + 2 → m < F → h_In s P k n i ch la → ∃ (y : Int32) (ch' la' : Nat → Int64), l_X7_works_57 (nI P) (nI s) (nI (10 - s)) (lN (h_e s)) (nI n) th tc mr pd mp (lN (h_B s)) se ta fs F (nI i, ch, la) = some (y, ch', la') ∧ h_In s P k n (P + 2) ch' la' := by
  intro m
  induction m with
  | zero =>
    intro F i ch la him hF hI
    obtain ⟨F, rfl⟩ : ∃ F', F = F' + 1 := ⟨F - 1, by omega⟩
    refine ⟨nI i, ch, la, ?_, by rw [show P + 2 = i by omega]; exact hI⟩
    show b_X7_works_57 (l_X7_works_57 (nI P) (nI s) (nI (10 - s)) (lN (h_e s)) (nI n) th tc mr pd mp (lN (h_B s)) se ta fs F) (nI P) (nI s) (nI (10 - s)) (lN (h_e s)) (nI n) (nI i) th tc mr pd mp ch la (lN (h_B s)) se ta fs = _
    unfold b_X7_works_57
    rw [nI_1 P, if_pos (nI_lt (show P + 1 < i by omega) (by omega))]
  | succ m ih =>
    intro F i ch la him hF hI
    obtain ⟨F, rfl⟩ : ∃ F', F = F' + 1 := ⟨F - 1, by omega⟩
    obtain ⟨ch1, la1, q1, q2⟩ := h_cell th tc mr pd mp ch la se ta fs (l_X7_works_57 (nI P) (nI s) (nI (10 - s)) (lN (h_e s)) (nI n) th tc mr pd mp (lN (h_B s)) se ta fs F) hm2 hm6 hs hP1 hP5 hk hn (show i ≤ P + 1 by omega) hI
    obtain ⟨y, ch', la', q3, q4⟩ := ih F (i + 1) ch1 la1 (by omega) (by omega) q2
    exact ⟨y, ch', la', Eq.trans q1 q3, q4⟩
theorem h_outer {s P k : Nat} (hm2 : mr 2 = nI P) (hm6 : mr 6 = nI k) (hs : s ≤ 9) (hP1 : 1 ≤ P) (hP5 : P ≤ 5) (hk : k ≤ 2) : ∀ (m F : Nat) (ch la : Nat → Int64), m ≤ 2 * P + 3 → m < F → h_In s P k m (P + 2) ch la → ∃ (y : Int32) (ch' la' : Nat → Int64), l_X7_works_49 (nI P) (nI s) (nI (10 - s)) (lN (h_e s)) th tc mr pd mp (lN (h_B s)) se ta fs F (nI m + (-1), ch, la) = some (y, ch', la') ∧ h_In s P k 0 (P + 2) ch' la' := by
  intro m
  induction m with
  | zero =>
    intro F ch la hm hF hI
    obtain ⟨F, rfl⟩ : ∃ F', F = F' + 1 := ⟨F - 1, by omega⟩
    refine ⟨nI 0 + (-1), ch, la, ?_, hI⟩
    show b_X7_works_49 (l_X7_works_49 (nI P) (nI s) (nI (10 - s)) (lN (h_e s)) th tc mr pd mp (lN (h_B s)) se ta fs F) (nI P) (nI s) (nI (10 - s)) (lN (h_e s)) (nI 0 + (-1)) th tc mr pd mp ch la (lN (h_B s)) se ta fs = _
    unfold b_X7_works_49
    rw [if_pos (show nI 0 + (-1) < 0 by decide)]
  | succ m ih =>
    intro F ch la hm hF hI
    obtain ⟨F, rfl⟩ : ∃ F', F = F' + 1 := ⟨F - 1, by omega⟩
    obtain ⟨y1, ch1, la1, q1, q2⟩ := h_inner th tc mr pd mp se ta fs hm2 hm6 hs hP1 hP5 hk (show m ≤ 2 * P + 2 by omega) (P + 2) 1000 0 ch la (by omega) (by omega) (fun i' j' h1 h2 h3 h4 => hI i' j' h1 h2 h3 (by omega))
    obtain ⟨y, ch', la', q3, q4⟩ := ih F ch1 la1 (by omega) (by omega) q2
    refine ⟨y, ch', la', ?_, q4⟩
    show b_X7_works_49 (l_X7_works_49 (nI P) (nI s) (nI (10 - s)) (lN (h_e s)) th tc mr pd mp (lN (h_B s)) se ta fs F) (nI P) (nI s) (nI (10 - s)) (lN (h_e s)) (nI (m + 1) + (-1)) th tc mr pd mp ch la (lN (h_B s)) se ta fs = _
    unfold b_X7_works_49
    rw [pk_m1, if_neg (nI_pos (show m < 2 ^ 31 by omega))]
    exact Eq.trans (p_b3 q1) q3
theorem h_works {s P k sv : Nat} (hsv : sv ≤ 1) (hms : mr sv = nI s) (hm2 : mr 2 = nI P) (hm6 : mr 6 = nI k) (hs : s ≤ 9) (hP1 : 1 ≤ P) (hP5 : P ≤ 5) (hk : k ≤ 2) (ch la : Nat → Int64) (be : Int64) : ∃ (ch' la' : Nat → Int64), f_X7_works (nI sv) th tc mr pd mp ch la be se ta fs = some (ch', la', lN (h_B s)) ∧ h_In s P k 0 (P + 2) ch' la' := by
  have hww : s * s ≤ 9 * 9 := Nat.mul_le_mul hs hs
  have htt : (10 - s) * (10 - s) ≤ 10 * 10 := Nat.mul_le_mul (by omega) (by omega)
  obtain ⟨y, ch', la', q1, q2⟩ := h_outer th tc mr pd mp se ta fs hm2 hm6 hs hP1 hP5 hk (2 * P + 3) 1000 ch la (by omega) (by omega) (fun i' j' h1 h2 h3 h4 => absurd h4 (by omega))
  refine ⟨ch', la', ?_, q2⟩
  rw [pk_m1] at q1
  unfold f_X7_works
  rw [if_neg (p_gd (show sv < 7 by omega) (by decide)), p_cl (by omega), hms, hm2, k_ten (by omega), pk_mul, pk_mul, nI_add, nI_l (show s * s + (10 - s) * (10 - s) < 2 ^ 31 by omega), show (2 : Int32) * nI P + 2 = nI (2 * P + 2) from by rw [show (2 : Int32) * nI P = nI (2 * P) from pk_mul 2 P]; exact nI_add _ 2, show (1000000000 : Int64) * lN (s * s + (10 - s) * (10 - s)) = lN (h_B s) from lN_mul 1000000000 _]
  exact p_b3 q1
end HWL
