/-! the reference's rows of a set -/
def v_S (G ga gb : Nat) : Nat → Nat → Nat → Nat → Nat
  | 0, x, y, _ => if G ≤ x ∧ y + 2 ≤ x then 1000000 else if G ≤ y ∧ x + 2 ≤ y then 0 else (ga + gb) / 2
  | d + 1, x, y, s => if G ≤ x ∧ y + 2 ≤ x then 1000000 else if G ≤ y ∧ x + 2 ≤ y then 0 else ((if s = 0 then ga else gb) * v_S G ga gb d (x + 1) y (1 - s) + (1000000 - (if s = 0 then ga else gb)) * v_S G ga gb d x (y + 1) (1 - s)) / 1000000
theorem v_1 {G ga gb d x y s : Nat} (h : G ≤ x ∧ y + 2 ≤ x) : v_S G ga gb d x y s = 1000000 := by
  cases d with
  | zero => exact if_pos h
  | succ d => exact if_pos h
theorem v_2 {G ga gb d x y s : Nat} (h1 : ¬ (G ≤ x ∧ y + 2 ≤ x)) (h : G ≤ y ∧ x + 2 ≤ y) : v_S G ga gb d x y s = 0 := by
  cases d with
  | zero => exact (if_neg h1).trans (if_pos h)
  | succ d => exact (if_neg h1).trans (if_pos h)
theorem v_0 {G ga gb x y s : Nat} (h1 : ¬ (G ≤ x ∧ y + 2 ≤ x)) (h : ¬ (G ≤ y ∧ x + 2 ≤ y)) : v_S G ga gb 0 x y s = (ga + gb) / 2 := (if_neg h1).trans (if_neg h)
theorem v_s {G ga gb d x y s : Nat} (h1 : ¬ (G ≤ x ∧ y + 2 ≤ x)) (h : ¬ (G ≤ y ∧ x + 2 ≤ y)) : v_S G ga gb (d + 1) x y s = ((if s = 0 then ga else gb) * v_S G ga gb d (x + 1) y (1 - s) + (1000000 - (if s = 0 then ga else gb)) * v_S G ga gb d x (y + 1) (1 - s)) / 1000000 := (if_neg h1).trans (if_neg h)
theorem v_mix {c a b : Nat} (hc : c ≤ 1000000) (ha : a ≤ 1000000) (hb : b ≤ 1000000) : c * a + (1000000 - c) * b ≤ 1000000 * 1000000 := by
  have h1 : c * a ≤ c * 1000000 := Nat.mul_le_mul_left _ ha
  have h2 : (1000000 - c) * b ≤ (1000000 - c) * 1000000 := Nat.mul_le_mul_left _ hb
  omega
theorem v_le {G ga gb : Nat} (ha : ga ≤ 1000000) (hb : gb ≤ 1000000) : ∀ (d x y s : Nat), v_S G ga gb d x y s ≤ 1000000 := by
  intro d
  induction d with
  | zero =>
    intro x y s
    show (if G ≤ x ∧ y + 2 ≤ x then 1000000 else if G ≤ y ∧ x + 2 ≤ y then 0 else (ga + gb) / 2) ≤ _
    repeat' split
    all_goals omega
  | succ d ih =>
    intro x y s
    by_cases c1 : G ≤ x ∧ y + 2 ≤ x
    · rw [v_1 c1]
      exact Nat.le_refl _
    · by_cases c2 : G ≤ y ∧ x + 2 ≤ y
      · rw [v_2 c1 c2]
        exact Nat.zero_le _
      · rw [v_s c1 c2]
        have := v_mix (c := if s = 0 then ga else gb) (by split <;> assumption) (ih (x + 1) y (1 - s)) (ih x (y + 1) (1 - s))
        omega
/-- a mix of two chances, as both reckon it -/
theorem v_lmix {c a b : Nat} (hc : c ≤ 1000000) (ha : a ≤ 1000000) (hb : b ≤ 1000000) : (lN c * lN a + ((1000000 : Int64) - lN c) * lN b) / (1000000 : Int64) = lN ((c * a + (1000000 - c) * b) / 1000000) := by
  have h := v_mix hc ha hb
  rw [show (1000000 : Int64) - lN c = lN (1000000 - c) from lN_sub (a := 1000000) hc, lN_mul, lN_mul, lN_add]
  exact pk_lDiv (b := 1000000) (by omega) (by decide) (by decide)
theorem v_ix {i j s : Nat} : (2 : Int32) * ((8 : Int32) * nI i + nI j) + nI s = nI (2 * (8 * i + j) + s) := by
  rw [show (8 : Int32) * nI i = nI (8 * i) from pk_mul 8 i, nI_add, show (2 : Int32) * nI (8 * i + j) = nI (2 * (8 * i + j)) from pk_mul 2 _, nI_add]
theorem v_1s {s : Nat} (hs : s ≤ 1) : (1 : Int32) - nI s = nI (1 - s) := pk_sub (a := 1) hs
theorem v_ix8 {i j : Nat} : (8 : Int32) * nI i + 8 + nI j = nI (8 * (i + 1) + j) := by
  rw [show (8 : Int32) * nI i = nI (8 * i) from pk_mul 8 i, show nI (8 * i) + 8 = nI (8 * i + 8) from nI_add _ 8, nI_add, show 8 * (i + 1) = 8 * i + 8 by omega]
theorem v_ix1 {i j : Nat} : (8 : Int32) * nI i + nI j + 1 = nI (8 * i + (j + 1)) := by
  rw [show (8 : Int32) * nI i = nI (8 * i) from pk_mul 8 i, nI_add, nI_1, show 8 * i + (j + 1) = 8 * i + j + 1 by omega]
theorem v_ix2 {q s : Nat} : (2 : Int32) * nI q + nI s = nI (2 * q + s) := by
  rw [show (2 : Int32) * nI q = nI (2 * q) from pk_mul 2 _, nI_add]
/-- the rows of a set hold: all of sum over n, and of sum n those before i, s -/
def v_In (G ga gb n i s : Nat) (se : Nat → Int64) : Prop :=
  ∀ x y z : Nat, x ≤ G + 1 → y ≤ G + 1 → x + y ≤ 2 * G → z ≤ 1 → (n < x + y ∨ (x + y = n ∧ (x < i ∨ (x = i ∧ z < s)))) → se (2 * (8 * x + y) + z) = lN (v_S G ga gb (2 * G - x - y) x y z)
section VS
variable (th : Int32) (tc : Int64) (mr : Nat → Int32) (pd : Int32) (mp : Nat → Int32) (ch la : Nat → Int64) (be : Int64) (se : Nat → Int64) (ta : Nat → Int32) (fs : Int32)
theorem v_183 (K : (Int32 × (Nat → Int64)) → Option (Int32 × (Nat → Int64))) (x6 : Int32) {G ga gb i j s c a b : Nat} (hG6 : G ≤ 6) (hi : i ≤ G) (hj : j ≤ G) (hs : s ≤ 1) (hc : c ≤ 1000000) (ha : a ≤ 1000000) (hb : b ≤ 1000000) (e1 : se (2 * (8 * (i + 1) + j) + (1 - s)) = lN a) (e2 : se (2 * (8 * i + (j + 1)) + (1 - s)) = lN b) : b_X7_worksSets_183 K (nI G) (lN ga) (lN gb) x6 (nI i) (nI j) (nI s) (nI (2 * (8 * i + j) + s)) (lN c) th tc mr pd mp ch la be se ta fs = K (nI (s + 1), vp_updL se (2 * (8 * i + j) + s) (lN ((c * a + (1000000 - c) * b) / 1000000))) := by
  unfold b_X7_worksSets_183 b_X7_worksSets_272
  rw [if_neg (nI_nlt hi (by omega)), if_neg (nI_nlt hj (by omega)), v_ix8, v_ix1, v_1s hs, v_ix2, v_ix2, if_neg (p_gd (show 2 * (8 * (i + 1) + j) + (1 - s) < 128 by omega) (by decide)), if_neg (p_gd (show 2 * (8 * i + (j + 1)) + (1 - s) < 128 by omega) (by decide)), if_neg (p_gd (show 2 * (8 * i + j) + s < 128 by omega) (by decide)), p_cl (show 2 * (8 * (i + 1) + j) + (1 - s) < 2 ^ 31 by omega), p_cl (show 2 * (8 * i + (j + 1)) + (1 - s) < 2 ^ 31 by omega), p_cl (show 2 * (8 * i + j) + s < 2 ^ 31 by omega), e1, e2, v_lmix hc ha hb, nI_1]
theorem v_97 (K : (Int32 × (Nat → Int64)) → Option (Int32 × (Nat → Int64))) (x6 : Int32) {G ga gb i j s c : Nat} (hG6 : G ≤ 6) (hi : i ≤ G + 1) (hj : j ≤ G + 1) (hij : i + j ≤ 2 * G + 1) (hs : s ≤ 1) (hga : ga ≤ 1000000) (hgb : gb ≤ 1000000) (hc : c = if s = 0 then ga else gb) (hI : v_In G ga gb (i + j) i s se) : b_X7_worksSets_97 K (nI G) (lN ga) (lN gb) x6 (nI i) (nI j) (nI s) (nI (2 * (8 * i + j) + s)) (lN c) th tc mr pd mp ch la be se ta fs = if i + j ≤ 2 * G then K (nI (s + 1), vp_updL se (2 * (8 * i + j) + s) (lN (v_S G ga gb (2 * G - i - j) i j s))) else K (nI (s + 1), se) := by
  have hcc : c ≤ 1000000 := by
    rw [hc]
    split <;> assumption
  have hgd := p_gd (show 2 * (8 * i + j) + s < 128 by omega) (by decide)
  have hcl := p_cl (show 2 * (8 * i + j) + s < 2 ^ 31 by omega)
  have hij2 : (nI i - nI j < 2) ↔ i < j + 2 := p_sL (a := i) (b := j) (c := 2) (by omega) (by omega) (by omega)
  have hji2 : (nI j - nI i < 2) ↔ j < i + 2 := p_sL (a := j) (b := i) (c := 2) (by omega) (by omega) (by omega)
  by_cases w1 : G ≤ i ∧ j + 2 ≤ i
  · unfold b_X7_worksSets_97 b_X7_worksSets_272
    rw [if_neg (nI_nlt w1.1 (by omega)), if_neg (fun z => absurd (hij2.mp z) (by omega)), if_neg hgd, hcl, if_pos (show i + j ≤ 2 * G by omega), v_1 w1, nI_1]
    rfl
  have e97 : b_X7_worksSets_97 K (nI G) (lN ga) (lN gb) x6 (nI i) (nI j) (nI s) (nI (2 * (8 * i + j) + s)) (lN c) th tc mr pd mp ch la be se ta fs = b_X7_worksSets_127 K (nI G) (lN ga) (lN gb) x6 (nI i) (nI j) (nI s) (nI (2 * (8 * i + j) + s)) (lN c) th tc mr pd mp ch la be se ta fs := by
    unfold b_X7_worksSets_97
    by_cases ci : i < G
    · rw [if_pos (nI_lt ci (by omega))]
    · rw [if_neg (nI_nlt (by omega) (by omega)), if_pos (hij2.mpr (by omega))]
  rw [e97]
  by_cases w2 : G ≤ j ∧ i + 2 ≤ j
  · unfold b_X7_worksSets_127 b_X7_worksSets_272
    rw [if_neg (nI_nlt w2.1 (by omega)), if_neg (fun z => absurd (hji2.mp z) (by omega)), if_neg hgd, hcl, if_pos (show i + j ≤ 2 * G by omega), v_2 w1 w2, nI_1]
    rfl
  have e127 : b_X7_worksSets_127 K (nI G) (lN ga) (lN gb) x6 (nI i) (nI j) (nI s) (nI (2 * (8 * i + j) + s)) (lN c) th tc mr pd mp ch la be se ta fs = b_X7_worksSets_153 K (nI G) (lN ga) (lN gb) x6 (nI i) (nI j) (nI s) (nI (2 * (8 * i + j) + s)) (lN c) th tc mr pd mp ch la be se ta fs := by
    unfold b_X7_worksSets_127
    by_cases ci : j < G
    · rw [if_pos (nI_lt ci (by omega))]
    · rw [if_neg (nI_nlt (by omega) (by omega)), if_pos (hji2.mpr (by omega))]
  rw [e127]
  by_cases gg : i = G ∧ j = G
  · unfold b_X7_worksSets_153 b_X7_worksSets_272
    rw [if_pos (congrArg nI gg.1), if_pos (congrArg nI gg.2), if_neg hgd, hcl, if_pos (show i + j ≤ 2 * G by omega), show 2 * G - i - j = 0 by omega, v_0 w1 w2, lN_add, show lN (ga + gb) / (2 : Int64) = lN ((ga + gb) / 2) from pk_lDiv (b := 2) (by omega) (by decide) (by decide), nI_1]
  have e153 : b_X7_worksSets_153 K (nI G) (lN ga) (lN gb) x6 (nI i) (nI j) (nI s) (nI (2 * (8 * i + j) + s)) (lN c) th tc mr pd mp ch la be se ta fs = b_X7_worksSets_183 K (nI G) (lN ga) (lN gb) x6 (nI i) (nI j) (nI s) (nI (2 * (8 * i + j) + s)) (lN c) th tc mr pd mp ch la be se ta fs := by
    unfold b_X7_worksSets_153
    by_cases ci : i = G
    · rw [if_pos (congrArg nI ci), if_neg (fun z => gg ⟨ci, (nI_eq (by omega) (by omega)).mp z⟩)]
    · rw [if_neg (fun z => ci ((nI_eq (by omega) (by omega)).mp z))]
  rw [e153]
  by_cases c2 : i + j ≤ 2 * G
  · obtain ⟨d, hd⟩ : ∃ d, 2 * G - i - j = d + 1 := ⟨2 * G - i - j - 1, by omega⟩
    have a1 := hI (i + 1) j (1 - s) (by omega) (by omega) (by omega) (by omega) (by omega)
    have a2 := hI i (j + 1) (1 - s) (by omega) (by omega) (by omega) (by omega) (by omega)
    rw [show 2 * G - (i + 1) - j = d by omega] at a1
    rw [show 2 * G - i - (j + 1) = d by omega] at a2
    rw [if_pos c2, hd, v_s w1 w2, ← hc]
    exact v_183 th tc mr pd mp ch la be se ta fs K x6 hG6 (by omega) (by omega) hs hcc (v_le hga hgb _ _ _ _) (v_le hga hgb _ _ _ _) a1 a2
  · rw [if_neg c2]
    unfold b_X7_worksSets_183 b_X7_worksSets_272
    rw [nI_1]
    by_cases c3 : G < i
    · rw [if_pos (nI_lt c3 (by omega))]
    · rw [if_neg (nI_nlt (by omega) (by omega)), if_pos (nI_lt (show G < j by omega) (by omega))]
theorem v_cell (K : (Int32 × (Nat → Int64)) → Option (Int32 × (Nat → Int64))) (x6 : Int32) {G ga gb i j s : Nat} (hG6 : G ≤ 6) (hi : i ≤ G + 1) (hj : j ≤ G + 1) (hij : i + j ≤ 2 * G + 1) (hs : s ≤ 1) (hga : ga ≤ 1000000) (hgb : gb ≤ 1000000) (hI : v_In G ga gb (i + j) i s se) : ∃ se' : Nat → Int64, b_X7_worksSets_53 K (nI G) (lN ga) (lN gb) x6 (nI i) (nI j) (nI s) th tc mr pd mp ch la be se ta fs = K (nI (s + 1), se') ∧ v_In G ga gb (i + j) i (s + 1) se' := by
  have e : b_X7_worksSets_53 K (nI G) (lN ga) (lN gb) x6 (nI i) (nI j) (nI s) th tc mr pd mp ch la be se ta fs = b_X7_worksSets_97 K (nI G) (lN ga) (lN gb) x6 (nI i) (nI j) (nI s) (nI (2 * (8 * i + j) + s)) (lN (if s = 0 then ga else gb)) th tc mr pd mp ch la be se ta fs := by
    unfold b_X7_worksSets_53
    rw [if_neg (show ¬ (2 : Int32) ≤ nI s from nI_ge (show s < 2 by omega) (by decide)), nI_1]
    refine Eq.trans (p_b1 (h_in j (G + 1) (by omega) (by omega))) ?_
    rw [if_pos hj, if_neg (show ¬ nI 1 = 0 by decide), v_ix]
    by_cases cs : s = 0
    · rw [if_pos (show nI s = 0 by rw [cs]; rfl), if_pos cs]
    · rw [if_neg (show ¬ nI s = 0 from fun z => cs ((nI_eq (b := 0) (by omega) (by decide)).mp z)), if_neg cs]
  rw [e, v_97 th tc mr pd mp ch la be se ta fs K x6 hG6 hi hj hij hs hga hgb rfl hI]
  by_cases c : i + j ≤ 2 * G
  · rw [if_pos c]
    refine ⟨_, rfl, ?_⟩
    intro x y z h1 h2 h3 h4 h5
    by_cases ee : x = i ∧ y = j ∧ z = s
    · obtain ⟨e1, e2, e3⟩ := ee
      rw [e1, e2, e3, pk_uLs]
    · rw [pk_uLn (show 2 * (8 * x + y) + z ≠ 2 * (8 * i + j) + s by omega)]
      exact hI x y z h1 h2 h3 h4 (by omega)
  · rw [if_neg c]
    refine ⟨se, rfl, ?_⟩
    intro x y z h1 h2 h3 h4 h5
    exact hI x y z h1 h2 h3 h4 (by omega)
end VS
section VT
variable (th : Int32) (tc : Int64) (mr : Nat → Int32) (pd : Int32) (mp : Nat → Int32) (ch la : Nat → Int64) (be : Int64) (ta : Nat → Int32) (fs : Int32)
/-- one score, both who serve -/
theorem v_both {G ga gb n i : Nat} (hG6 : G ≤ 6) (hi : i ≤ G + 1) (hn : n ≤ 2 * G + 1) (hga : ga ≤ 1000000) (hgb : gb ≤ 1000000) (se : Nat → Int64) (hI : v_In G ga gb n i 0 se) : ∃ (y : Int32) (se' : Nat → Int64), l_X7_worksSets_53 (nI G) (lN ga) (lN gb) (nI n) (nI i) (nI n - nI i) th tc mr pd mp ch la be ta fs 1000 (0, se) = some (y, se') ∧ v_In G ga gb n (i + 1) 0 se' := by
  by_cases c : n < i ∨ G + 1 < n - i
  · refine ⟨0, se, ?_, fun x y z h1 h2 h3 h4 h5 => hI x y z h1 h2 h3 h4 (by omega)⟩
    show b_X7_worksSets_53 (l_X7_worksSets_53 (nI G) (lN ga) (lN gb) (nI n) (nI i) (nI n - nI i) th tc mr pd mp ch la be ta fs 999) (nI G) (lN ga) (lN gb) (nI n) (nI i) (nI n - nI i) 0 th tc mr pd mp ch la be se ta fs = _
    unfold b_X7_worksSets_53
    rw [if_neg (show ¬ (2 : Int32) ≤ 0 by decide), nI_1]
    have hin : f_X7_in (nI n - nI i) 0 (nI (G + 1)) = some 0 := by
      by_cases c1 : n < i
      · unfold f_X7_in b_X7_in_14
        rw [if_pos (pk_sneg (by omega) c1)]
      · rw [pk_sub (by omega)]
        refine Eq.trans (h_in (n - i) (G + 1) (by omega) (by omega)) ?_
        rw [if_neg (by omega)]
        rfl
    refine Eq.trans (p_b1 hin) ?_
    rw [if_pos rfl]
  · obtain ⟨j, hj⟩ : ∃ j, n = i + j := ⟨n - i, by omega⟩
    subst hj
    rw [pk_sub (show i ≤ i + j by omega), show i + j - i = j by omega]
    obtain ⟨se1, q1, q2⟩ := v_cell th tc mr pd mp ch la be se ta fs (l_X7_worksSets_53 (nI G) (lN ga) (lN gb) (nI (i + j)) (nI i) (nI j) th tc mr pd mp ch la be ta fs 999) (nI (i + j)) hG6 hi (show j ≤ G + 1 by omega) (by omega) (show 0 ≤ 1 by omega) hga hgb hI
    obtain ⟨se2, q3, q4⟩ := v_cell th tc mr pd mp ch la be se1 ta fs (l_X7_worksSets_53 (nI G) (lN ga) (lN gb) (nI (i + j)) (nI i) (nI j) th tc mr pd mp ch la be ta fs 998) (nI (i + j)) hG6 hi (show j ≤ G + 1 by omega) (by omega) (show 0 + 1 ≤ 1 by omega) hga hgb q2
    refine ⟨nI (0 + 1 + 1), se2, ?_, fun x y z h1 h2 h3 h4 h5 => q4 x y z h1 h2 h3 h4 (by omega)⟩
    refine Eq.trans q1 ?_
    refine Eq.trans q3 ?_
    show b_X7_worksSets_53 (l_X7_worksSets_53 (nI G) (lN ga) (lN gb) (nI (i + j)) (nI i) (nI j) th tc mr pd mp ch la be ta fs 997) (nI G) (lN ga) (lN gb) (nI (i + j)) (nI i) (nI j) (nI (0 + 1 + 1)) th tc mr pd mp ch la be se2 ta fs = _
    unfold b_X7_worksSets_53
    rw [if_pos (show (2 : Int32) ≤ nI (0 + 1 + 1) by decide)]
theorem v_row {G ga gb n : Nat} (hG6 : G ≤ 6) (hn : n ≤ 2 * G + 1) (hga : ga ≤ 1000000) (hgb : gb ≤ 1000000) : ∀ (m F i : Nat) (se : Nat → Int64), i + m = G + 2 → m < F → v_In G ga gb n i 0 se → ∃ (y : Int32) (se' : Nat → Int64), l_X7_worksSets_35 (nI G) (lN ga) (lN gb) (nI n) th tc mr pd mp ch la be ta fs F (nI i, se) = some (y, se') ∧ v_In G ga gb n (G + 2) 0 se' := by
  intro m
  induction m with
  | zero =>
    intro F i se him hF hI
    obtain ⟨F, rfl⟩ : ∃ F', F = F' + 1 := ⟨F - 1, by omega⟩
    refine ⟨nI i, se, ?_, by rw [show G + 2 = i by omega]; exact hI⟩
    show b_X7_worksSets_35 (l_X7_worksSets_35 (nI G) (lN ga) (lN gb) (nI n) th tc mr pd mp ch la be ta fs F) (nI G) (lN ga) (lN gb) (nI n) (nI i) th tc mr pd mp ch la be se ta fs = _
    unfold b_X7_worksSets_35
    rw [nI_1, if_pos (nI_lt (show G + 1 < i by omega) (by omega))]
  | succ m ih =>
    intro F i se him hF hI
    obtain ⟨F, rfl⟩ : ∃ F', F = F' + 1 := ⟨F - 1, by omega⟩
    obtain ⟨y1, se1, q1, q2⟩ := v_both th tc mr pd mp ch la be ta fs hG6 (show i ≤ G + 1 by omega) hn hga hgb se hI
    obtain ⟨y, se', q3, q4⟩ := ih F (i + 1) se1 (by omega) (by omega) q2
    refine ⟨y, se', ?_, q4⟩
    show b_X7_worksSets_35 (l_X7_worksSets_35 (nI G) (lN ga) (lN gb) (nI n) th tc mr pd mp ch la be ta fs F) (nI G) (lN ga) (lN gb) (nI n) (nI i) th tc mr pd mp ch la be se ta fs = _
    unfold b_X7_worksSets_35 b_X7_worksSets_278
    rw [nI_1, if_neg (nI_nlt (show i ≤ G + 1 by omega) (by omega))]
    refine Eq.trans (p_b2 q1) ?_
    rw [nI_1]
    exact q3
theorem v_all {G ga gb : Nat} (hG6 : G ≤ 6) (hga : ga ≤ 1000000) (hgb : gb ≤ 1000000) : ∀ (m F : Nat) (se : Nat → Int64), m ≤ 2 * G + 2 → m < F → v_In G ga gb m (G + 2) 0 se → ∃ (y : Int32) (se' : Nat → Int64), l_X7_worksSets_27 (nI G) (lN ga) (lN gb) th tc mr pd mp ch la be ta fs F (nI m + (-1), se) = some (y, se') ∧ v_In G ga gb 0 (G + 2) 0 se' := by
  intro m
  induction m with
  | zero =>
    intro F se hm hF hI
    obtain ⟨F, rfl⟩ : ∃ F', F = F' + 1 := ⟨F - 1, by omega⟩
    refine ⟨nI 0 + (-1), se, ?_, hI⟩
    show b_X7_worksSets_27 (l_X7_worksSets_27 (nI G) (lN ga) (lN gb) th tc mr pd mp ch la be ta fs F) (nI G) (lN ga) (lN gb) (nI 0 + (-1)) th tc mr pd mp ch la be se ta fs = _
    unfold b_X7_worksSets_27
    rw [if_pos (show nI 0 + (-1) < 0 by decide)]
  | succ m ih =>
    intro F se hm hF hI
    obtain ⟨F, rfl⟩ : ∃ F', F = F' + 1 := ⟨F - 1, by omega⟩
    obtain ⟨y1, se1, q1, q2⟩ := v_row th tc mr pd mp ch la be ta fs hG6 (show m ≤ 2 * G + 1 by omega) hga hgb (G + 2) 1000 0 se (by omega) (by omega) (fun x y z h1 h2 h3 h4 h5 => hI x y z h1 h2 h3 h4 (by omega))
    obtain ⟨y, se', q3, q4⟩ := ih F se1 (by omega) (by omega) q2
    refine ⟨y, se', ?_, q4⟩
    show b_X7_worksSets_27 (l_X7_worksSets_27 (nI G) (lN ga) (lN gb) th tc mr pd mp ch la be ta fs F) (nI G) (lN ga) (lN gb) (nI (m + 1) + (-1)) th tc mr pd mp ch la be se ta fs = _
    unfold b_X7_worksSets_27
    rw [pk_m1, if_neg (nI_pos (show m < 2 ^ 31 by omega))]
    exact Eq.trans (p_b2 q1) q3
end VT
