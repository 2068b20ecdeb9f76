/-! the class's grids and the rows of chances -/
theorem g_holds {i j s : Nat} (hi : i < s) (hj : j < s) (hs : s ≤ 8) (n : Nat) (f : Nat → Int64) : f_X1_holds (nI i) (nI j) (nI s) n f = some 1 := by
  unfold f_X1_holds
  rw [if_neg (nI_pos (show i < 2 ^ 31 by omega)), if_neg (nI_ge hi (by omega)), if_neg (nI_pos (show j < 2 ^ 31 by omega)), if_neg (nI_ge hj (by omega))]
theorem g_lt {i j s : Nat} (hi : i < s) (hj : j < s) : s * i + j < s * s :=
  Nat.lt_of_lt_of_le (Nat.add_lt_add_left hj _) (Nat.le_trans (Nat.le_of_eq (Nat.mul_succ s i).symm) (Nat.mul_le_mul_left s hi))
theorem g_ix (i j s : Nat) : nI i * nI s + nI j = nI (s * i + j) := by
  rw [pk_mul, nI_add, Nat.mul_comm]
theorem g_at {i j s n : Nat} (hi : i < s) (hj : j < s) (hs : s ≤ 8) (hn : s * s = n) (f : Nat → Int64) : f_X1_at (nI i) (nI j) (nI s) n f = some (f (s * i + j)) := by
  have hl := g_lt hi hj
  have hss : s * s ≤ 8 * 8 := Nat.mul_le_mul hs hs
  unfold f_X1_at
  refine Eq.trans (p_b1 (g_holds hi hj hs n f)) ?_
  rw [if_neg (show ¬ (1 : Int32) = 0 by decide), g_ix, if_neg (p_gd (show s * i + j < n by omega) (by omega)), p_cl (by omega)]
theorem g_puts {i j s n : Nat} (hi : i < s) (hj : j < s) (hs : s ≤ 8) (hn : s * s = n) (v : Int64) (f : Nat → Int64) : f_X1_put (nI i) (nI j) v (nI s) n f = some (vp_updL f (s * i + j) v) := by
  have hl := g_lt hi hj
  have hss : s * s ≤ 8 * 8 := Nat.mul_le_mul hs hs
  unfold f_X1_put
  refine Eq.trans (p_b1 (g_holds hi hj hs n f)) ?_
  rw [if_neg (show ¬ (1 : Int32) = 0 by decide), g_ix, if_neg (p_gd (show s * i + j < n by omega) (by omega)), p_cl (by omega)]
theorem g_at7 {i j : Nat} (hi : i ≤ 6) (hj : j ≤ 6) (f : Nat → Int64) : f_X1_at (nI i) (nI j) 7 49 f = some (f (7 * i + j)) := g_at (s := 7) (by omega) (by omega) (by decide) rfl f
theorem g_put7 {i j : Nat} (hi : i ≤ 6) (hj : j ≤ 6) (v : Int64) (f : Nat → Int64) : f_X1_put (nI i) (nI j) v 7 49 f = some (vp_updL f (7 * i + j) v) := g_puts (s := 7) (by omega) (by omega) (by decide) rfl v f
theorem g_ten : ∀ d, d < 11 → q_ten d = lN (10 ^ d) := by decide
theorem g_tens {d : Nat} (hd : d ≤ 10) : f_X0_tens (nI d) = some (lN (10 ^ d)) := by
  unfold f_X0_tens
  rw [if_neg (nI_pos (show d < 2 ^ 31 by omega)), if_neg (show ¬ (11 : Int32) ≤ nI d from nI_ge (show d < 11 by omega) (by decide)), if_neg (p_gd (show d < 11 by omega) (by decide)), p_cl (by omega), g_ten d (by omega)]
theorem g_bottom {i j P U : Nat} (hP5 : P ≤ 5) (hij : i + j ≤ 2 * P) (r : Nat → Int32) (fc fl : Nat → Int64) : f_X0_bottom (nI i) (nI j) r (nI P) (lN U) fc fl = some (lN (U * 10 ^ (2 * P - i - j))) := by
  unfold f_X0_bottom
  have e : (2 : Int32) * nI P - nI i - nI j = nI (2 * P - i - j) := by
    rw [show (2 : Int32) * nI P = nI (2 * P) from pk_mul 2 P, pk_sub (show i ≤ 2 * P by omega), pk_sub (show j ≤ 2 * P - i by omega)]
  rw [e]
  refine Eq.trans (p_b1 (g_tens (show 2 * P - i - j ≤ 10 by omega))) ?_
  rw [lN_mul]
/-- chances (x = 0) and lengths (x = 1), each over U * 10 ^ d, d points before P all -/
def g_V (w U P k x : Nat) : Nat → Nat → Nat → Nat
  | 0, i, j => if s_won P k i j = 0 then (if x = 0 then w * w else 200) else if s_won P k i j = 1 then (1 - x) * (U * 10 ^ 0) else 0
  | d + 1, i, j => if s_won P k i j = 0 then x * (U * 10 ^ (d + 1)) + w * g_V w U P k x d (i + 1) j + (10 - w) * g_V w U P k x d i (j + 1) else if s_won P k i j = 1 then (1 - x) * (U * 10 ^ (d + 1)) else 0
theorem g_V0 {w U P k x i j : Nat} (h : s_won P k i j = 0) : g_V w U P k x 0 i j = if x = 0 then w * w else 200 := if_pos h
theorem g_Vs {w U P k x d i j : Nat} (h : s_won P k i j = 0) : g_V w U P k x (d + 1) i j = x * (U * 10 ^ (d + 1)) + w * g_V w U P k x d (i + 1) j + (10 - w) * g_V w U P k x d i (j + 1) := if_pos h
theorem g_Vn {w U P k x d i j : Nat} (h : s_won P k i j ≠ 0) : g_V w U P k x d i j = if s_won P k i j = 1 then (1 - x) * (U * 10 ^ d) else 0 := by
  cases d with
  | zero => exact if_neg h
  | succ d => exact if_neg h
theorem g_won2 (P k i j : Nat) : s_won P k i j ≤ 2 := by
  unfold s_won
  repeat' split
  all_goals omega
theorem g_in {P k i j : Nat} (h : s_won P k i j = 0) (hij : i + j ≤ 2 * P) : i ≤ P ∧ j ≤ P := by
  unfold s_won at h
  repeat' split at h
  all_goals omega
/-- what the class's rows hold once all from i, j on are reckoned -/
def g_In (w U P k i j : Nat) (fc fl : Nat → Int64) : Prop :=
  ∀ i' j' : Nat, i' ≤ P + 1 → j' ≤ P + 1 → i' + j' ≤ 2 * P → (i < i' ∨ (i' = i ∧ j ≤ j')) → fc (7 * i' + j') = lN (g_V w U P k 0 (2 * P - i' - j') i' j') ∧ fl (7 * i' + j') = lN (g_V w U P k 1 (2 * P - i' - j') i' j')
theorem g_score {r : Nat → Int32} {w U P k i j : Nat} {fc fl : Nat → Int64} (hP : r 2 = nI P) (h6 : r 6 = nI k) (hw9 : w ≤ 9) (hP1 : 1 ≤ P) (hP5 : P ≤ 5) (hk : k ≤ 2) (hi : i ≤ P + 1) (hj : j ≤ P + 1) (hij : i + j ≤ 2 * P) (hI : g_In w U P k i (j + 1) fc fl) :
    f_X0_reckonScore (nI i) (nI j) (nI w) (nI (10 - w)) r (nI P) (lN U) fc fl = some (vp_updL fc (7 * i + j) (lN (g_V w U P k 0 (2 * P - i - j) i j)), vp_updL fl (7 * i + j) (lN (g_V w U P k 1 (2 * P - i - j) i j))) := by
  have hww : w * w ≤ 9 * 9 := Nat.mul_le_mul hw9 hw9
  unfold f_X0_reckonScore b_X0_reckonScore_45
  refine Eq.trans (p_b1 (show f_X5_gameWinner (r 6) (nI i) (nI j) r = some (nI (s_won P k i j)) from by rw [h6]; exact p_gw r hP hP1 hP5 hk (by omega) (by omega))) ?_
  have h2 := g_won2 P k i j
  by_cases c0 : s_won P k i j = 0
  · rw [c0, if_pos (show nI 0 = (0 : Int32) from rfl), nI_add, show (2 : Int32) * nI P = nI (2 * P) from pk_mul 2 P]
    obtain ⟨hiP, hjP⟩ := g_in c0 hij
    by_cases cd : i + j = 2 * P
    · rw [if_pos (congrArg nI cd), show 2 * P - i - j = 0 by omega, g_V0 c0, g_V0 c0, pk_mul, nI_l (by omega)]
      refine Eq.trans (p_b1 (g_put7 (by omega) (by omega) _ _)) ?_
      exact p_b1 (g_put7 (by omega) (by omega) _ _)
    · rw [if_neg (fun z => cd ((nI_eq (by omega) (by omega)).mp z))]
      obtain ⟨d, hd⟩ : ∃ d, 2 * P - i - j = d + 1 := ⟨2 * P - i - j - 1, by omega⟩
      obtain ⟨a1, a2⟩ := hI (i + 1) j (by omega) (by omega) (by omega) (by omega)
      obtain ⟨b1, b2⟩ := hI i (j + 1) (by omega) (by omega) (by omega) (by omega)
      rw [show 2 * P - (i + 1) - j = d by omega] at a1 a2
      rw [show 2 * P - i - (j + 1) = d by omega] at b1 b2
      rw [hd, g_Vs c0, g_Vs c0, nI_1, nI_1, nI_l (show w < 2 ^ 31 by omega), nI_l (show 10 - w < 2 ^ 31 by omega)]
      refine Eq.trans (p_b1 (g_at7 (i := i + 1) (j := j) (by omega) (by omega) fc)) ?_
      refine Eq.trans (p_b1 (g_at7 (i := i) (j := j + 1) (by omega) (by omega) fc)) ?_
      refine Eq.trans (p_b1 (g_put7 (i := i) (j := j) (by omega) (by omega) _ _)) ?_
      refine Eq.trans (p_b1 (g_bottom hP5 hij r _ fl)) ?_
      refine Eq.trans (p_b1 (g_at7 (i := i + 1) (j := j) (by omega) (by omega) fl)) ?_
      refine Eq.trans (p_b1 (g_at7 (i := i) (j := j + 1) (by omega) (by omega) fl)) ?_
      refine Eq.trans (p_b1 (g_put7 (i := i) (j := j) (by omega) (by omega) _ _)) ?_
      rw [a1, a2, b1, b2, hd]
      simp only [lN_mul, lN_add, Nat.zero_mul, Nat.zero_add, Nat.one_mul]
  · rw [if_neg (show ¬ nI (s_won P k i j) = 0 from fun z => c0 ((nI_eq (b := 0) (by omega) (by decide)).mp z)), g_Vn c0, g_Vn c0]
    by_cases c1 : s_won P k i j = 1
    · rw [c1, if_pos (show nI 1 = (1 : Int32) from rfl), if_pos rfl, if_pos rfl]
      refine Eq.trans (p_b1 (g_bottom hP5 hij r _ fl)) ?_
      refine Eq.trans (p_b1 (g_put7 (i := i) (j := j) (by omega) (by omega) _ _)) ?_
      refine Eq.trans (p_b1 (g_put7 (i := i) (j := j) (by omega) (by omega) _ _)) ?_
      simp only [Nat.sub_zero, Nat.sub_self, Nat.zero_mul, Nat.one_mul]
      rfl
    · rw [if_neg (show ¬ nI (s_won P k i j) = 1 from fun z => c1 ((nI_eq (b := 1) (by omega) (by decide)).mp z)), if_neg c1, if_neg c1]
      refine Eq.trans (p_b1 (g_put7 (i := i) (j := j) (by omega) (by omega) _ _)) ?_
      exact p_b1 (g_put7 (i := i) (j := j) (by omega) (by omega) _ _)
theorem g_inner {r : Nat → Int32} {w U P k i : Nat} (hP : r 2 = nI P) (h6 : r 6 = nI k) (hw9 : w ≤ 9) (hP1 : 1 ≤ P) (hP5 : P ≤ 5) (hk : k ≤ 2) (hi : i ≤ P + 1) : ∀ (m F : Nat) (fc fl : Nat → Int64), m < F → m ≤ P + 2 → i + m ≤ 2 * P + 1 → g_In w U P k i m fc fl → ∃ (y : Int32) (fc' fl' : Nat → Int64), l_X0_reckon_84 (nI w) (nI (10 - w)) (nI i) r (nI P) (lN U) F (nI m + (-1), fc, fl) = some (y, fc', fl') ∧ g_In w U P k i 0 fc' fl' := by
  intro m
  induction m with
  | zero =>
    intro F fc fl hF hm him hI
    obtain ⟨F, rfl⟩ : ∃ F', F = F' + 1 := ⟨F - 1, by omega⟩
    refine ⟨nI 0 + (-1), fc, fl, ?_, hI⟩
    show b_X0_reckon_84 (l_X0_reckon_84 (nI w) (nI (10 - w)) (nI i) r (nI P) (lN U) F) (nI w) (nI (10 - w)) (nI i) (nI 0 + (-1)) r (nI P) (lN U) fc fl = _
    unfold b_X0_reckon_84
    rw [if_pos (show nI 0 + (-1) < 0 by decide)]
  | succ m ih =>
    intro F fc fl hF hm him hI
    obtain ⟨F, rfl⟩ : ∃ F', F = F' + 1 := ⟨F - 1, by omega⟩
    have hn : g_In w U P k i m (vp_updL fc (7 * i + m) (lN (g_V w U P k 0 (2 * P - i - m) i m))) (vp_updL fl (7 * i + m) (lN (g_V w U P k 1 (2 * P - i - m) i m))) := by
      intro i' j' h1 h2 h3 h4
      by_cases e : i' = i ∧ j' = m
      · obtain ⟨e1, e2⟩ := e
        subst e1; subst e2
        rw [pk_uLs, pk_uLs]
        exact ⟨rfl, rfl⟩
      · rw [pk_uLn (show 7 * i' + j' ≠ 7 * i + m by omega), pk_uLn (show 7 * i' + j' ≠ 7 * i + m by omega)]
        exact hI i' j' h1 h2 h3 (by omega)
    obtain ⟨y, fc', fl', q1, q2⟩ := ih F _ _ (by omega) (by omega) (by omega) hn
    refine ⟨y, fc', fl', ?_, q2⟩
    show b_X0_reckon_84 (l_X0_reckon_84 (nI w) (nI (10 - w)) (nI i) r (nI P) (lN U) F) (nI w) (nI (10 - w)) (nI i) (nI (m + 1) + (-1)) r (nI P) (lN U) fc fl = _
    unfold b_X0_reckon_84
    rw [pk_m1, if_neg (nI_pos (show m < 2 ^ 31 by omega))]
    refine Eq.trans (p_b2 (g_score hP h6 hw9 hP1 hP5 hk hi (show m ≤ P + 1 by omega) (show i + m ≤ 2 * P by omega) hI)) ?_
    exact q1
theorem g_outer {r : Nat → Int32} {w U P k : Nat} (hP : r 2 = nI P) (h6 : r 6 = nI k) (hw9 : w ≤ 9) (hP1 : 1 ≤ P) (hP5 : P ≤ 5) (hk : k ≤ 2) : ∀ (n F : Nat) (fc fl : Nat → Int64), n < F → n ≤ P + 2 → g_In w U P k n 0 fc fl → ∃ (y : Int32) (fc' fl' : Nat → Int64), l_X0_reckon_59 (nI w) (nI (10 - w)) r (nI P) (lN U) F (nI n + (-1), fc, fl) = some (y, fc', fl') ∧ g_In w U P k 0 0 fc' fl' := by
  intro n
  induction n with
  | zero =>
    intro F fc fl hF hm hI
    obtain ⟨F, rfl⟩ : ∃ F', F = F' + 1 := ⟨F - 1, by omega⟩
    refine ⟨nI 0 + (-1), fc, fl, ?_, hI⟩
    show b_X0_reckon_59 (l_X0_reckon_59 (nI w) (nI (10 - w)) r (nI P) (lN U) F) (nI w) (nI (10 - w)) (nI 0 + (-1)) r (nI P) (lN U) fc fl = _
    unfold b_X0_reckon_59
    rw [if_pos (show nI 0 + (-1) < 0 by decide)]
  | succ n ih =>
    intro F fc fl hF hm hI
    obtain ⟨F, rfl⟩ : ∃ F', F = F' + 1 := ⟨F - 1, by omega⟩
    obtain ⟨m, hmd⟩ : ∃ m, m = if 2 * P - n < P + 1 then 2 * P - n else P + 1 := ⟨_, rfl⟩
    have hm1 : m ≤ 2 * P - n ∧ m ≤ P + 1 ∧ (m = 2 * P - n ∨ m = P + 1) := by
      rw [hmd]; split <;> omega
    obtain ⟨y1, fc1, fl1, q1, q2⟩ := g_inner hP h6 hw9 hP1 hP5 hk (show n ≤ P + 1 by omega) (m + 1) 1000 fc fl (by omega) (by omega) (by omega) (fun i' j' h1 h2 h3 h4 => hI i' j' h1 h2 h3 (by omega))
    obtain ⟨y, fc', fl', q3, q4⟩ := ih F fc1 fl1 (by omega) (by omega) q2
    refine ⟨y, fc', fl', ?_, q4⟩
    show b_X0_reckon_59 (l_X0_reckon_59 (nI w) (nI (10 - w)) r (nI P) (lN U) F) (nI w) (nI (10 - w)) (nI (n + 1) + (-1)) r (nI P) (lN U) fc fl = _
    unfold b_X0_reckon_59
    have e : (if 2 * nI P - nI n < nI P + 1 then 2 * nI P - nI n else nI P + 1) = nI (m + 1) + (-1) := by
      rw [pk_m1, show (2 : Int32) * nI P = nI (2 * P) from pk_mul 2 P, pk_sub (show n ≤ 2 * P by omega), nI_1, hmd]
      by_cases c : 2 * P - n < P + 1
      · rw [if_pos c, if_pos (nI_lt c (by omega))]
      · rw [if_neg c, if_neg (nI_nlt (by omega) (by omega))]
    rw [pk_m1, if_neg (nI_pos (show n < 2 ^ 31 by omega)), e]
    refine Eq.trans (p_b3 q1) ?_
    exact q3
def g_U (w k : Nat) : Nat := if k = 0 then w * w + (10 - w) * (10 - w) else 1
theorem g_reckon {r : Nat → Int32} {w P k sv : Nat} (hw : f_X5_tenthsOfA (nI sv) r = some (nI w)) (hP : r 2 = nI P) (h6 : r 6 = nI k) (hw9 : w ≤ 9) (hP1 : 1 ≤ P) (hP5 : P ≤ 5) (hk : k ≤ 2) (to : Int32) (un : Int64) (fc fl : Nat → Int64) : ∃ (fc' fl' : Nat → Int64), f_X0_reckon (nI sv) r to un fc fl = some (nI P, lN (g_U w k), fc', fl') ∧ g_In w (g_U w k) P k 0 0 fc' fl' := by
  have hww : w * w ≤ 9 * 9 := Nat.mul_le_mul hw9 hw9
  have htt : (10 - w) * (10 - w) ≤ 10 * 10 := Nat.mul_le_mul (by omega) (by omega)
  obtain ⟨y, fc', fl', q1, q2⟩ := g_outer (U := g_U w k) hP h6 hw9 hP1 hP5 hk (P + 2) 1000 fc fl (by omega) (by omega) (fun i' j' h1 h2 h3 h4 => absurd h4 (by omega))
  refine ⟨fc', fl', ?_, q2⟩
  rw [pk_m1] at q1
  have h48 : ∀ s0 : Int64, s0 = lN (g_U w k) → b_X0_reckon_48 (nI w) (nI (10 - w)) s0 r (nI P) un fc fl = some (nI P, lN (g_U w k), fc', fl') := by
    intro s0 hs
    subst hs
    unfold b_X0_reckon_48
    rw [nI_1]
    exact p_b3 q1
  unfold f_X0_reckon
  refine Eq.trans (p_b1 hw) ?_
  rw [k_ten (by omega), hP, h6]
  by_cases c : k = 0
  · rw [if_pos (show nI k = 0 by rw [c]; rfl)]
    refine h48 _ ?_
    rw [pk_mul, pk_mul, nI_add, nI_l (by omega), g_U, if_pos c]
  · rw [if_neg (show ¬ nI k = 0 from fun z => c ((nI_eq (b := 0) (by omega) (by decide)).mp z))]
    refine h48 _ ?_
    rw [g_U, if_neg c]
    rfl
