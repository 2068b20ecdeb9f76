/-! match -/
def w_M (S qa qb : Nat) : Nat → Nat → Nat → Nat → Nat
  | 0, x, _, _ => if x = S then 1000000 else 0
  | d + 1, x, y, s => if x = S then 1000000 else if y = S then 0 else ((if s = 0 then qa else qb) * w_M S qa qb d (x + 1) y (1 - s) + (1000000 - (if s = 0 then qa else qb)) * w_M S qa qb d x (y + 1) (1 - s)) / 1000000
theorem w_1 {S qa qb d x y s : Nat} (h : x = S) : w_M S qa qb d x y s = 1000000 := by
  cases d with
  | zero => exact if_pos h
  | succ d => exact if_pos h
theorem w_2 {S qa qb d x y s : Nat} (h1 : ¬ x = S) (h : y = S) : w_M S qa qb d x y s = 0 := by
  cases d with
  | zero => exact if_neg h1
  | succ d => exact (if_neg h1).trans (if_pos h)
theorem w_s {S qa qb d x y s : Nat} (h1 : ¬ x = S) (h : ¬ y = S) : w_M S qa qb (d + 1) x y s = ((if s = 0 then qa else qb) * w_M S qa qb d (x + 1) y (1 - s) + (1000000 - (if s = 0 then qa else qb)) * w_M S qa qb d x (y + 1) (1 - s)) / 1000000 := (if_neg h1).trans (if_neg h)
theorem w_le {S qa qb : Nat} (ha : qa ≤ 1000000) (hb : qb ≤ 1000000) : ∀ (d x y s : Nat), w_M S qa qb d x y s ≤ 1000000 := by
  intro d
  induction d with
  | zero =>
    intro x y s
    show (if x = S then 1000000 else 0) ≤ _
    repeat' split
    all_goals omega
  | succ d ih =>
    intro x y s
    by_cases c1 : x = S
    · rw [w_1 c1]
      exact Nat.le_refl _
    · by_cases c2 : y = S
      · rw [w_2 c1 c2]
        exact Nat.zero_le _
      · rw [w_s c1 c2]
        have := v_mix (c := if s = 0 then qa else qb) (by split <;> assumption) (ih (x + 1) y (1 - s)) (ih x (y + 1) (1 - s))
        omega
def w_In (S qa qb n i s : Nat) (se : Nat → Int64) : Prop :=
  ∀ x y z : Nat, x ≤ S → y ≤ S → x + y ≤ 2 * S - 1 → z ≤ 1 → (n < x + y ∨ (x + y = n ∧ (x < i ∨ (x = i ∧ z < s)))) → se (2 * (8 * x + y) + z) = lN (w_M S qa qb (2 * S - 1 - x - y) x y z)
theorem w_ix {q s : Nat} (hs : s ≤ 1) : (2 : Int32) * nI q + 1 - nI s = nI (2 * q + (1 - s)) := by
  rw [show (2 : Int32) * nI q = nI (2 * q) from pk_mul 2 _, nI_1, pk_sub (show s ≤ 2 * q + 1 by omega), show 2 * q + 1 - s = 2 * q + (1 - s) by omega]
section WS
variable (th : Int32) (tc : Int64) (mr : Nat → Int32) (pd : Int32) (mp : Nat → Int32) (ch la : Nat → Int64) (be : Int64) (se : Nat → Int64) (ta : Nat → Int32) (fs : Int32)
theorem w_153 (K : (Int32 × (Nat → Int64)) → Option (Int32 × (Nat → Int64))) (x1 x2 x3 x9 : Int32) (x5 x7 : Int64) {S qa qb i j s c : Nat} (hS : S ≤ 3) (hi : i ≤ S) (hj : j ≤ S) (hij : i + j ≤ 2 * S - 1) (hs : s ≤ 1) (hqa : qa ≤ 1000000) (hqb : qb ≤ 1000000) (hc : c = if s = 0 then qa else qb) (hI : w_In S qa qb (i + j) i s se) : b_X7_match_153 K x1 x2 x3 (nI S) x5 x7 x9 (nI i) (nI j) (nI s) (nI (2 * (8 * i + j) + s)) (lN c) th tc mr pd mp ch la be se ta fs = K (nI (s + 1), vp_updL se (2 * (8 * i + j) + s) (lN (w_M S qa qb (2 * S - 1 - i - j) i j s))) := by
  have hcc : c ≤ 1000000 := by
    rw [hc]
    split <;> assumption
  have hgd := p_gd (show 2 * (8 * i + j) + s < 128 by omega) (by decide)
  have hcl := p_cl (show 2 * (8 * i + j) + s < 2 ^ 31 by omega)
  unfold b_X7_match_153 b_X7_match_169 b_X7_match_189 b_X7_match_260
  rw [nI_1]
  by_cases w1 : i = S
  · rw [if_pos (congrArg nI w1), if_pos (congrArg nI w1), if_neg hgd, hcl, w_1 w1]
    rfl
  have n1 : ¬ nI i = nI S := fun z => w1 ((nI_eq (by omega) (by omega)).mp z)
  rw [if_neg n1]
  by_cases w2 : j = S
  · rw [if_pos (congrArg nI w2), if_neg n1, if_neg hgd, hcl, w_2 w1 w2]
    rfl
  have n2 : ¬ nI j = nI S := fun z => w2 ((nI_eq (by omega) (by omega)).mp z)
  obtain ⟨d, hd⟩ : ∃ d, 2 * S - 1 - i - j = d + 1 := ⟨2 * S - 1 - i - j - 1, by omega⟩
  have a1 := hI (i + 1) j (1 - s) (by omega) (by omega) (by omega) (by omega) (by omega)
  have a2 := hI i (j + 1) (1 - s) (by omega) (by omega) (by omega) (by omega) (by omega)
  rw [show 2 * S - 1 - (i + 1) - j = d by omega] at a1
  rw [show 2 * S - 1 - i - (j + 1) = d by omega] at a2
  rw [if_neg n2, v_ix8, v_ix1, w_ix hs, w_ix hs, if_neg (p_gd (show 2 * (8 * (i + 1) + j) + (1 - s) < 128 by omega) (by decide)), if_neg (p_gd (show 2 * (8 * i + (j + 1)) + (1 - s) < 128 by omega) (by decide)), if_neg hgd, p_cl (show 2 * (8 * (i + 1) + j) + (1 - s) < 2 ^ 31 by omega), p_cl (show 2 * (8 * i + (j + 1)) + (1 - s) < 2 ^ 31 by omega), hcl, a1, a2, hd, w_s w1 w2, ← hc, v_lmix hcc (w_le hqa hqb _ _ _ _) (w_le hqa hqb _ _ _ _)]
theorem w_cell (K : (Int32 × (Nat → Int64)) → Option (Int32 × (Nat → Int64))) (x1 x2 x3 x9 : Int32) {S qa qb i j s : Nat} (hS : S ≤ 3) (hi : i ≤ S) (hj : j ≤ S) (hij : i + j ≤ 2 * S - 1) (hs : s ≤ 1) (hqa : qa ≤ 1000000) (hqb : qb ≤ 1000000) (hI : w_In S qa qb (i + j) i s se) : ∃ se' : Nat → Int64, b_X7_match_109 K x1 x2 x3 (nI S) (lN qa) (lN qb) x9 (nI i) (nI j) (nI s) th tc mr pd mp ch la be se ta fs = K (nI (s + 1), se') ∧ w_In S qa qb (i + j) i (s + 1) se' := by
  have e : b_X7_match_109 K x1 x2 x3 (nI S) (lN qa) (lN qb) x9 (nI i) (nI j) (nI s) th tc mr pd mp ch la be se ta fs = b_X7_match_153 K x1 x2 x3 (nI S) (lN qa) (lN qb) x9 (nI i) (nI j) (nI s) (nI (2 * (8 * i + j) + s)) (lN (if s = 0 then qa else qb)) th tc mr pd mp ch la be se ta fs := by
    unfold b_X7_match_109
    rw [if_neg (show ¬ (2 : Int32) ≤ nI s from nI_ge (show s < 2 by omega) (by decide))]
    refine Eq.trans (p_b1 (h_in j S (by omega) (by omega))) ?_
    rw [if_pos hj, if_neg (show ¬ nI 1 = 0 by decide), v_ix]
    by_cases cs : s = 0
    · rw [if_pos (show nI s = 0 by rw [cs]; rfl), if_pos cs]
    · rw [if_neg (show ¬ nI s = 0 from fun z => cs ((nI_eq (b := 0) (by omega) (by decide)).mp z)), if_neg cs]
  rw [e, w_153 th tc mr pd mp ch la be se ta fs K x1 x2 x3 x9 (lN qa) (lN qb) hS hi hj hij hs hqa hqb rfl hI]
  refine ⟨_, rfl, ?_⟩
  intro x y z h1 h2 h3 h4 h5
  by_cases ee : x = i ∧ y = j ∧ z = s
  · obtain ⟨e1, e2, e3⟩ := ee
    rw [e1, e2, e3, pk_uLs]
  · rw [pk_uLn (show 2 * (8 * x + y) + z ≠ 2 * (8 * i + j) + s by omega)]
    exact hI x y z h1 h2 h3 h4 (by omega)
end WS
section WT
variable (th : Int32) (tc : Int64) (mr : Nat → Int32) (pd : Int32) (mp : Nat → Int32) (ch la : Nat → Int64) (be : Int64) (ta : Nat → Int32) (fs : Int32) (x1 x2 x3 : Int32)
theorem w_both {S qa qb n i : Nat} (hS : S ≤ 3) (hi : i ≤ S) (hn : n ≤ 2 * S - 1) (hqa : qa ≤ 1000000) (hqb : qb ≤ 1000000) (se : Nat → Int64) (hI : w_In S qa qb n i 0 se) : ∃ (y : Int32) (se' : Nat → Int64), l_X7_match_109 x1 x2 x3 (nI S) (lN qa) (lN qb) (nI n) (nI i) (nI n - nI i) th tc mr pd mp ch la be ta fs 1000 (0, se) = some (y, se') ∧ w_In S qa qb n (i + 1) 0 se' := by
  by_cases c : n < i ∨ S < n - i
  · refine ⟨0, se, ?_, fun x y z h1 h2 h3 h4 h5 => hI x y z h1 h2 h3 h4 (by omega)⟩
    show b_X7_match_109 (l_X7_match_109 x1 x2 x3 (nI S) (lN qa) (lN qb) (nI n) (nI i) (nI n - nI i) th tc mr pd mp ch la be ta fs 999) x1 x2 x3 (nI S) (lN qa) (lN qb) (nI n) (nI i) (nI n - nI i) 0 th tc mr pd mp ch la be se ta fs = _
    unfold b_X7_match_109
    rw [if_neg (show ¬ (2 : Int32) ≤ 0 by decide)]
    have hin : f_X7_in (nI n - nI i) 0 (nI S) = some 0 := by
      by_cases c1 : n < i
      · unfold f_X7_in b_X7_in_14
        rw [if_pos (pk_sneg (by omega) c1)]
      · rw [pk_sub (by omega)]
        refine Eq.trans (h_in (n - i) S (by omega) (by omega)) ?_
        rw [if_neg (by omega)]
        rfl
    refine Eq.trans (p_b1 hin) ?_
    rw [if_pos rfl]
  · obtain ⟨j, hj⟩ : ∃ j, n = i + j := ⟨n - i, by omega⟩
    subst hj
    rw [pk_sub (show i ≤ i + j by omega), show i + j - i = j by omega]
    obtain ⟨se1, q1, q2⟩ := w_cell th tc mr pd mp ch la be se ta fs (l_X7_match_109 x1 x2 x3 (nI S) (lN qa) (lN qb) (nI (i + j)) (nI i) (nI j) th tc mr pd mp ch la be ta fs 999) x1 x2 x3 (nI (i + j)) hS hi (show j ≤ S by omega) (by omega) (show 0 ≤ 1 by omega) hqa hqb hI
    obtain ⟨se2, q3, q4⟩ := w_cell th tc mr pd mp ch la be se1 ta fs (l_X7_match_109 x1 x2 x3 (nI S) (lN qa) (lN qb) (nI (i + j)) (nI i) (nI j) th tc mr pd mp ch la be ta fs 998) x1 x2 x3 (nI (i + j)) hS hi (show j ≤ S by omega) (by omega) (show 0 + 1 ≤ 1 by omega) hqa hqb q2
    refine ⟨nI (0 + 1 + 1), se2, ?_, fun x y z h1 h2 h3 h4 h5 => q4 x y z h1 h2 h3 h4 (by omega)⟩
    refine Eq.trans q1 ?_
    refine Eq.trans q3 ?_
    show b_X7_match_109 (l_X7_match_109 x1 x2 x3 (nI S) (lN qa) (lN qb) (nI (i + j)) (nI i) (nI j) th tc mr pd mp ch la be ta fs 997) x1 x2 x3 (nI S) (lN qa) (lN qb) (nI (i + j)) (nI i) (nI j) (nI (0 + 1 + 1)) th tc mr pd mp ch la be se2 ta fs = _
    unfold b_X7_match_109
    rw [if_pos (show (2 : Int32) ≤ nI (0 + 1 + 1) by decide)]
theorem w_row {S qa qb n : Nat} (hS : S ≤ 3) (hn : n ≤ 2 * S - 1) (hqa : qa ≤ 1000000) (hqb : qb ≤ 1000000) : ∀ (m F i : Nat) (se : Nat → Int64), i + m = S + 1 → m < F → w_In S qa qb n i 0 se → ∃ (y : Int32) (se' : Nat → Int64), l_X7_match_92 x1 x2 x3 (nI S) (lN qa) (lN qb) (nI n) th tc mr pd mp ch la be ta fs F (nI i, se) = some (y, se') ∧ w_In S qa qb n (S + 1) 0 se' := by
  intro m
  induction m with
  | zero =>
    intro F i se him hF hI
    obtain ⟨F, rfl⟩ : ∃ F', F = F' + 1 := ⟨F - 1, by omega⟩
    refine ⟨nI i, se, ?_, by rw [show S + 1 = i by omega]; exact hI⟩
    show b_X7_match_92 (l_X7_match_92 x1 x2 x3 (nI S) (lN qa) (lN qb) (nI n) th tc mr pd mp ch la be ta fs F) x1 x2 x3 (nI S) (lN qa) (lN qb) (nI n) (nI i) th tc mr pd mp ch la be se ta fs = _
    unfold b_X7_match_92
    rw [if_pos (nI_lt (show S < i by omega) (by omega))]
  | succ m ih =>
    intro F i se him hF hI
    obtain ⟨F, rfl⟩ : ∃ F', F = F' + 1 := ⟨F - 1, by omega⟩
    obtain ⟨y1, se1, q1, q2⟩ := w_both th tc mr pd mp ch la be ta fs x1 x2 x3 hS (show i ≤ S by omega) hn hqa hqb se hI
    obtain ⟨y, se', q3, q4⟩ := ih F (i + 1) se1 (by omega) (by omega) q2
    refine ⟨y, se', ?_, q4⟩
    show b_X7_match_92 (l_X7_match_92 x1 x2 x3 (nI S) (lN qa) (lN qb) (nI n) th tc mr pd mp ch la be ta fs F) x1 x2 x3 (nI S) (lN qa) (lN qb) (nI n) (nI i) th tc mr pd mp ch la be se ta fs = _
    unfold b_X7_match_92 b_X7_match_266
    rw [if_neg (nI_nlt (show i ≤ S by omega) (by omega))]
    refine Eq.trans (p_b2 q1) ?_
    rw [nI_1]
    exact q3
theorem w_all {S qa qb : Nat} (hS : S ≤ 3) (hS1 : 1 ≤ S) (hqa : qa ≤ 1000000) (hqb : qb ≤ 1000000) : ∀ (m F : Nat) (se : Nat → Int64), m ≤ 2 * S → m < F → w_In S qa qb m (S + 1) 0 se → ∃ (y : Int32) (se' : Nat → Int64), l_X7_match_84 x1 x2 x3 (nI S) (lN qa) (lN qb) th tc mr pd mp ch la be ta fs F (nI m + (-1), se) = some (y, se') ∧ w_In S qa qb 0 (S + 1) 0 se' := by
  intro m
  induction m with
  | zero =>
    intro F se hm hF hI
    obtain ⟨F, rfl⟩ : ∃ F', F = F' + 1 := ⟨F - 1, by omega⟩
    refine ⟨nI 0 + (-1), se, ?_, hI⟩
    show b_X7_match_84 (l_X7_match_84 x1 x2 x3 (nI S) (lN qa) (lN qb) th tc mr pd mp ch la be ta fs F) x1 x2 x3 (nI S) (lN qa) (lN qb) (nI 0 + (-1)) th tc mr pd mp ch la be se ta fs = _
    unfold b_X7_match_84
    rw [if_pos (show nI 0 + (-1) < 0 by decide)]
  | succ m ih =>
    intro F se hm hF hI
    obtain ⟨F, rfl⟩ : ∃ F', F = F' + 1 := ⟨F - 1, by omega⟩
    obtain ⟨y1, se1, q1, q2⟩ := w_row th tc mr pd mp ch la be ta fs x1 x2 x3 hS (show m ≤ 2 * S - 1 by omega) hqa hqb (S + 1) 1000 0 se (by omega) (by omega) (fun x y z h1 h2 h3 h4 h5 => hI x y z h1 h2 h3 h4 (by omega))
    obtain ⟨y, se', q3, q4⟩ := ih F se1 (by omega) (by omega) q2
    refine ⟨y, se', ?_, q4⟩
    show b_X7_match_84 (l_X7_match_84 x1 x2 x3 (nI S) (lN qa) (lN qb) th tc mr pd mp ch la be ta fs F) x1 x2 x3 (nI S) (lN qa) (lN qb) (nI (m + 1) + (-1)) th tc mr pd mp ch la be se ta fs = _
    unfold b_X7_match_84
    rw [pk_m1, if_neg (nI_pos (show m < 2 ^ 31 by omega))]
    exact Eq.trans (p_b2 q1) q3
end WT
