/-! the class's rows of a set; round -/
def o_V (G ga gb x y s : Nat) : Nat := if x + y ≤ 2 * G then v_S G ga gb (2 * G - x - y) x y s else if y < x then 1000000 else 0
def o_In (G ga gb x0 y0 s0 i j : Nat) (bg : Nat → Int64) : Prop :=
  ∀ x y : Nat, x ≤ G + 1 → y ≤ G + 1 → x + y ≤ 2 * G + 1 → x0 ≤ x → y0 ≤ y → (i < x ∨ (x = i ∧ j ≤ y)) → bg (8 * x + y) = lN (o_V G ga gb x y ((s0 + x - x0 + y - y0) % 2))
theorem o_any {i j s n : Nat} (hi : i ≤ 1000) (hj : j ≤ 1000) (hs : s ≤ 8) (hn : s * s = n) (f : Nat → Int64) : ∃ v : Int64, f_X1_at (nI i) (nI j) (nI s) n f = some v := by
  by_cases c : i < s ∧ j < s
  · exact ⟨_, g_at c.1 c.2 hs hn f⟩
  · refine ⟨0, ?_⟩
    unfold f_X1_at
    refine p_b1 (a := 0) ?_
    unfold f_X1_holds b_X1_holds_30
    rw [if_neg (nI_pos (show i < 2 ^ 31 by omega))]
    by_cases c1 : s ≤ i
    · rw [if_pos (nI_le c1 (by omega))]
    · rw [if_neg (nI_ge (by omega) (by omega)), if_neg (nI_pos (show j < 2 ^ 31 by omega)), if_pos (nI_le (show s ≤ j by omega) (by omega))]
theorem o_par {s0 x0 y0 i j : Nat} (hs : s0 ≤ 1) (hx : x0 ≤ i) (hy : y0 ≤ j) (hi : i ≤ 100) (hj : j ≤ 100) : nI s0 + nI i - nI x0 + nI j - nI y0 - (nI s0 + nI i - nI x0 + nI j - nI y0) / 2 * 2 = nI ((s0 + i - x0 + j - y0) % 2) := by
  rw [nI_add, pk_sub (show x0 ≤ s0 + i by omega), nI_add, pk_sub (show y0 ≤ s0 + i - x0 + j by omega)]
  exact pk_rem (d := 2) (by omega) (by decide) (by decide)
section OS
variable (r : Nat → Int32) (bs : Nat → Int64)
/-- one score of a set: what the class puts there -/
theorem o_score {G ga gb x0 y0 s0 i j c : Nat} (hG6 : G ≤ 6) (hG1 : 1 ≤ G) (hx : x0 ≤ i) (hy : y0 ≤ j) (hi : i ≤ G + 1) (hj : j ≤ G + 1) (hs : s0 ≤ 1) (hga : ga ≤ 1000000) (hgb : gb ≤ 1000000) (bg : Nat → Int64) (hI : o_In G ga gb x0 y0 s0 i (j + 1) bg) (hc : c = if i = G ∧ j = G then (ga + gb) / 2 else if (s0 + i - x0 + j - y0) % 2 = 0 then ga else gb) : ∃ v : Int64, f_X2_ofScore (nI i) (nI j) (nI (if (G ≤ i ∧ j + 2 ≤ i) ∨ (G ≤ j ∧ i + 2 ≤ j) ∨ 2 * G < i + j then s_lead i j else 0)) (lN c) 8 64 bg = some v ∧ (i + j ≤ 2 * G + 1 → v = lN (o_V G ga gb i j ((s0 + i - x0 + j - y0) % 2))) := by
  have hcc : c ≤ 1000000 := by
    rw [hc]
    repeat' split
    all_goals omega
  have n10 : ¬ nI 1 = 0 := by decide
  have n20 : ¬ nI 2 = 0 := by decide
  unfold f_X2_ofScore
  by_cases w1 : G ≤ i ∧ j + 2 ≤ i
  · refine ⟨1000000, ?_, fun _ => ?_⟩
    · rw [if_pos (Or.inl w1), show s_lead i j = 1 from by unfold s_lead; rw [if_pos (by omega)], if_neg n10, if_pos (show nI 1 = 1 from rfl)]
    · unfold o_V
      rw [if_pos (by omega), v_1 w1]
      rfl
  by_cases w2 : G ≤ j ∧ i + 2 ≤ j
  · refine ⟨0, ?_, fun _ => ?_⟩
    · rw [if_pos (Or.inr (Or.inl w2)), show s_lead i j = 2 from by unfold s_lead; rw [if_neg (by omega), if_pos (by omega)], if_neg n20, if_neg (show ¬ nI 2 = 1 by decide)]
    · unfold o_V
      rw [if_pos (by omega), v_2 w1 w2]
      rfl
  by_cases w3 : 2 * G < i + j
  · rw [if_pos (Or.inr (Or.inr w3))]
    by_cases c1 : j < i
    · refine ⟨1000000, ?_, fun _ => ?_⟩
      · rw [show s_lead i j = 1 from by unfold s_lead; rw [if_pos (by omega)], if_neg n10, if_pos (show nI 1 = 1 from rfl)]
      · unfold o_V
        rw [if_neg (by omega), if_pos c1]
        rfl
    · by_cases c2 : i < j
      · refine ⟨0, ?_, fun _ => ?_⟩
        · rw [show s_lead i j = 2 from by unfold s_lead; rw [if_neg (by omega), if_pos (by omega)], if_neg n20, if_neg (show ¬ nI 2 = 1 by decide)]
        · unfold o_V
          rw [if_neg (by omega), if_neg c1]
          rfl
      · obtain ⟨v1, e1⟩ := o_any (i := i + 1) (j := j) (s := 8) (n := 64) (by omega) (by omega) (by decide) rfl bg
        obtain ⟨v2, e2⟩ := o_any (i := i) (j := j + 1) (s := 8) (n := 64) (by omega) (by omega) (by decide) rfl bg
        refine ⟨(lN c * v1 + (1000000 - lN c) * v2) / 1000000, ?_, fun z => absurd z (by omega)⟩
        · rw [show s_lead i j = 0 from by unfold s_lead; rw [if_neg c1, if_neg c2], if_pos (show nI 0 = 0 from rfl), nI_1, nI_1]
          refine Eq.trans (p_b1 e1) ?_
          exact p_b1 e2
  · have a1 := hI (i + 1) j (by omega) (by omega) (by omega) (by omega) (by omega) (by omega)
    have a2 := hI i (j + 1) (by omega) (by omega) (by omega) (by omega) (by omega) (by omega)
    rw [if_neg (show ¬ ((G ≤ i ∧ j + 2 ≤ i) ∨ (G ≤ j ∧ i + 2 ≤ j) ∨ 2 * G < i + j) by omega), if_pos (show nI 0 = 0 from rfl), nI_1, nI_1]
    refine ⟨_, Eq.trans (p_b1 (show f_X1_at (nI (i + 1)) (nI j) 8 64 bg = _ from g_at (s := 8) (by omega) (by omega) (by decide) rfl bg)) (p_b1 (show f_X1_at (nI i) (nI (j + 1)) 8 64 bg = _ from g_at (s := 8) (by omega) (by omega) (by decide) rfl bg)), fun _ => ?_⟩
    rw [a1, a2]
    unfold o_V
    by_cases gg : i = G ∧ j = G
    · obtain ⟨g1, g2⟩ := gg
      rw [if_neg (show ¬ i + 1 + j ≤ 2 * G by omega), if_pos (show j < i + 1 by omega), if_neg (show ¬ i + (j + 1) ≤ 2 * G by omega), if_neg (show ¬ j + 1 < i by omega), if_pos (show i + j ≤ 2 * G by omega), show 2 * G - i - j = 0 by omega, v_0 w1 w2]
      rw [if_pos ⟨g1, g2⟩] at hc
      refine Eq.trans (v_lmix hcc (Nat.le_refl _) (Nat.zero_le _)) ?_
      rw [Nat.mul_zero, Nat.add_zero, Nat.mul_div_cancel _ (by decide), hc]
    · rw [if_neg gg] at hc
      obtain ⟨d, hd⟩ : ∃ d, 2 * G - i - j = d + 1 := ⟨2 * G - i - j - 1, by omega⟩
      rw [if_pos (show i + 1 + j ≤ 2 * G by omega), if_pos (show i + (j + 1) ≤ 2 * G by omega), if_pos (show i + j ≤ 2 * G by omega), show 2 * G - (i + 1) - j = d by omega, show 2 * G - i - (j + 1) = d by omega, hd, v_s w1 w2, ← hc, show (s0 + (i + 1) - x0 + j - y0) % 2 = 1 - (s0 + i - x0 + j - y0) % 2 by omega, show (s0 + i - x0 + (j + 1) - y0) % 2 = 1 - (s0 + i - x0 + j - y0) % 2 by omega]
      exact v_lmix hcc (v_le hga hgb _ _ _ _) (v_le hga hgb _ _ _ _)
theorem o_step (KK : (Int32 × (Nat → Int64)) → Option (Int32 × (Nat → Int64))) {G ga gb x0 y0 s0 i j : Nat} (r3 : r 3 = nI G) (hG6 : G ≤ 6) (hG1 : 1 ≤ G) (hx : x0 ≤ i) (hy : y0 ≤ j) (hi : i ≤ G + 1) (hj : j ≤ G + 1) (hs : s0 ≤ 1) (hga : ga ≤ 1000000) (hgb : gb ≤ 1000000) (bg : Nat → Int64) (hI : o_In G ga gb x0 y0 s0 i (j + 1) bg) : ∃ bg' : Nat → Int64, b_X2_ofSet_27 KK (nI x0) (nI y0) (nI s0) (lN ga) (lN gb) (nI G) (nI i) (nI j) r bg bs = KK (nI j + (-1), bg') ∧ o_In G ga gb x0 y0 s0 i j bg' := by
  obtain ⟨c, hc⟩ : ∃ c, c = if i = G ∧ j = G then (ga + gb) / 2 else if (s0 + i - x0 + j - y0) % 2 = 0 then ga else gb := ⟨_, rfl⟩
  obtain ⟨v, hv1, hv2⟩ := o_score hG6 hG1 hx hy hi hj hs hga hgb bg hI hc
  have h95 : b_X2_ofSet_95 KK (nI x0) (nI y0) (nI s0) (lN ga) (lN gb) (nI G) (nI i) (nI j) (lN c) r bg bs = KK (nI j + (-1), vp_updL bg (8 * i + j) v) := by
    unfold b_X2_ofSet_95
    refine Eq.trans (p_b1 (p_setW r r3 hG6 (show i ≤ 1000 by omega) (show j ≤ 1000 by omega))) ?_
    refine Eq.trans (p_b1 hv1) ?_
    exact p_b1 (show f_X1_put (nI i) (nI j) v 8 64 bg = _ from g_puts (s := 8) (by omega) (by omega) (by decide) rfl v bg)
  have h68 : ∀ c0 : Nat, c0 = (if (s0 + i - x0 + j - y0) % 2 = 0 then ga else gb) → b_X2_ofSet_68 KK (nI x0) (nI y0) (nI s0) (lN ga) (lN gb) (nI G) (nI i) (nI j) (lN c0) r bg bs = KK (nI j + (-1), vp_updL bg (8 * i + j) v) := by
    intro c0 h0
    unfold b_X2_ofSet_68
    by_cases ci : i = G
    · rw [if_pos (congrArg nI ci)]
      by_cases cj : j = G
      · rw [if_pos (congrArg nI cj), lN_add, show lN (ga + gb) / (2 : Int64) = lN ((ga + gb) / 2) from pk_lDiv (b := 2) (by omega) (by decide) (by decide)]
        rw [if_pos ⟨ci, cj⟩] at hc
        rw [← hc]
        exact h95
      · rw [if_neg (fun z => cj ((nI_eq (by omega) (by omega)).mp z))]
        rw [if_neg (fun z => cj z.2), ← h0] at hc
        rw [← hc]
        exact h95
    · rw [if_neg (fun z => ci ((nI_eq (by omega) (by omega)).mp z))]
      rw [if_neg (fun z => ci z.1), ← h0] at hc
      rw [← hc]
      exact h95
  refine ⟨vp_updL bg (8 * i + j) v, ?_, ?_⟩
  · unfold b_X2_ofSet_27 b_X2_ofSet_54
    rw [if_neg (nI_nlt hy (by omega)), o_par hs hx hy (by omega) (by omega)]
    by_cases cp : (s0 + i - x0 + j - y0) % 2 = 0
    · rw [if_pos (show nI ((s0 + i - x0 + j - y0) % 2) = 0 by rw [cp]; rfl), if_neg (show ¬ (1 : Int32) = 0 by decide)]
      exact h68 ga (by rw [if_pos cp])
    · rw [if_neg (show ¬ nI ((s0 + i - x0 + j - y0) % 2) = 0 from fun z => cp ((nI_eq (b := 0) (by omega) (by decide)).mp z)), if_pos (show (0 : Int32) = 0 from rfl)]
      exact h68 gb (by rw [if_neg cp])
  · intro x y h1 h2 h3 h4 h5 h6
    by_cases ee : x = i ∧ y = j
    · obtain ⟨e1, e2⟩ := ee
      rw [e1, e2, pk_uLs]
      exact hv2 (by omega)
    · rw [pk_uLn (show 8 * x + y ≠ 8 * i + j by omega)]
      exact hI x y h1 h2 h3 h4 h5 (by omega)
theorem o_lt (n : Nat) (hn : n < 1000) : nI n + (-1) < nI n := by
  cases n with
  | zero => decide
  | succ n =>
    rw [pk_m1]
    exact nI_lt (by omega) (by omega)
theorem o_inner {G ga gb x0 y0 s0 i : Nat} (r3 : r 3 = nI G) (hG6 : G ≤ 6) (hG1 : 1 ≤ G) (hx : x0 ≤ i) (hi : i ≤ G + 1) (hs : s0 ≤ 1) (hga : ga ≤ 1000000) (hgb : gb ≤ 1000000) : ∀ (n F : Nat) (bg : Nat → Int64), y0 + n ≤ G + 2 → n < F → o_In G ga gb x0 y0 s0 i (y0 + n) bg → ∃ (y : Int32) (bg' : Nat → Int64), l_X2_ofSet_27 (nI x0) (nI y0) (nI s0) (lN ga) (lN gb) (nI G) (nI i) r bs F (nI (y0 + n) + (-1), bg) = some (y, bg') ∧ o_In G ga gb x0 y0 s0 i y0 bg' := by
  intro n
  induction n with
  | zero =>
    intro F bg hn hF hI
    obtain ⟨F, rfl⟩ : ∃ F', F = F' + 1 := ⟨F - 1, by omega⟩
    refine ⟨nI (y0 + 0) + (-1), bg, ?_, hI⟩
    show b_X2_ofSet_27 (l_X2_ofSet_27 (nI x0) (nI y0) (nI s0) (lN ga) (lN gb) (nI G) (nI i) r bs F) (nI x0) (nI y0) (nI s0) (lN ga) (lN gb) (nI G) (nI i) (nI (y0 + 0) + (-1)) r bg bs = _
    unfold b_X2_ofSet_27
    rw [if_pos (show nI (y0 + 0) + (-1) < nI y0 from o_lt y0 (by omega))]
  | succ n ih =>
    intro F bg hn hF hI
    obtain ⟨F, rfl⟩ : ∃ F', F = F' + 1 := ⟨F - 1, by omega⟩
    obtain ⟨bg1, q1, q2⟩ := o_step r bs (l_X2_ofSet_27 (nI x0) (nI y0) (nI s0) (lN ga) (lN gb) (nI G) (nI i) r bs F) r3 hG6 hG1 hx (show y0 ≤ y0 + n by omega) hi (show y0 + n ≤ G + 1 by omega) hs hga hgb bg hI
    obtain ⟨y, bg', q3, q4⟩ := ih F bg1 (by omega) (by omega) q2
    refine ⟨y, bg', ?_, q4⟩
    rw [show nI (y0 + (n + 1)) + (-1) = nI (y0 + n) from pk_m1 (y0 + n)]
    exact Eq.trans q1 q3
theorem o_outer {G ga gb x0 y0 s0 : Nat} (r3 : r 3 = nI G) (hG6 : G ≤ 6) (hG1 : 1 ≤ G) (hy : y0 ≤ G) (hs : s0 ≤ 1) (hga : ga ≤ 1000000) (hgb : gb ≤ 1000000) : ∀ (n F : Nat) (bg : Nat → Int64), x0 + n ≤ G + 2 → n < F → o_In G ga gb x0 y0 s0 (x0 + n) y0 bg → ∃ (y : Int32) (bg' : Nat → Int64), l_X2_ofSet_15 (nI x0) (nI y0) (nI s0) (lN ga) (lN gb) (nI G) r bs F (nI (x0 + n) + (-1), bg) = some (y, bg') ∧ o_In G ga gb x0 y0 s0 x0 y0 bg' := by
  intro n
  induction n with
  | zero =>
    intro F bg hn hF hI
    obtain ⟨F, rfl⟩ : ∃ F', F = F' + 1 := ⟨F - 1, by omega⟩
    refine ⟨nI (x0 + 0) + (-1), bg, ?_, hI⟩
    show b_X2_ofSet_15 (l_X2_ofSet_15 (nI x0) (nI y0) (nI s0) (lN ga) (lN gb) (nI G) r bs F) (nI x0) (nI y0) (nI s0) (lN ga) (lN gb) (nI G) (nI (x0 + 0) + (-1)) r bg bs = _
    unfold b_X2_ofSet_15
    rw [if_pos (show nI (x0 + 0) + (-1) < nI x0 from o_lt x0 (by omega))]
  | succ n ih =>
    intro F bg hn hF hI
    obtain ⟨F, rfl⟩ : ∃ F', F = F' + 1 := ⟨F - 1, by omega⟩
    obtain ⟨y1, bg1, q1, q2⟩ := o_inner r bs r3 hG6 hG1 (show x0 ≤ x0 + n by omega) (show x0 + n ≤ G + 1 by omega) hs hga hgb (G + 2 - y0) 1000 bg (by omega) (by omega) (fun x y h1 h2 h3 h4 h5 h6 => hI x y h1 h2 h3 h4 h5 (by omega))
    obtain ⟨y, bg', q3, q4⟩ := ih F bg1 (by omega) (by omega) q2
    refine ⟨y, bg', ?_, q4⟩
    rw [show y0 + (G + 2 - y0) = G + 1 + 1 by omega, pk_m1] at q1
    show b_X2_ofSet_15 (l_X2_ofSet_15 (nI x0) (nI y0) (nI s0) (lN ga) (lN gb) (nI G) r bs F) (nI x0) (nI y0) (nI s0) (lN ga) (lN gb) (nI G) (nI (x0 + (n + 1)) + (-1)) r bg bs = _
    unfold b_X2_ofSet_15
    rw [show nI (x0 + (n + 1)) + (-1) = nI (x0 + n) from pk_m1 (x0 + n), if_neg (nI_nlt (show x0 ≤ x0 + n by omega) (by omega)), nI_1]
    exact Eq.trans (p_b2 q1) q3
theorem o_set {G ga gb x0 y0 s0 : Nat} (r3 : r 3 = nI G) (hG6 : G ≤ 6) (hG1 : 1 ≤ G) (hx : x0 ≤ G) (hy : y0 ≤ G) (hs : s0 ≤ 1) (hga : ga ≤ 1000000) (hgb : gb ≤ 1000000) (bg : Nat → Int64) : ∃ bg' : Nat → Int64, f_X2_ofSet (nI x0) (nI y0) (nI s0) (lN ga) (lN gb) r bg bs = some (lN (v_S G ga gb (2 * G - x0 - y0) x0 y0 s0), bg') := by
  obtain ⟨y, bg', q1, q2⟩ := o_outer r bs (x0 := x0) (y0 := y0) r3 hG6 hG1 hy hs hga hgb (G + 2 - x0) 1000 bg (by omega) (by omega) (fun x y h1 h2 h3 h4 h5 h6 => absurd h6 (by omega))
  rw [show x0 + (G + 2 - x0) = G + 1 + 1 by omega, pk_m1] at q1
  have e := q2 x0 y0 (by omega) (by omega) (by omega) (Nat.le_refl _) (Nat.le_refl _) (by omega)
  rw [show (s0 + x0 - x0 + y0 - y0) % 2 = s0 by omega, o_V, if_pos (by omega)] at e
  refine ⟨bg', ?_⟩
  unfold f_X2_ofSet
  rw [r3, nI_1]
  refine Eq.trans (p_b2 q1) ?_
  refine Eq.trans (p_b1 (show f_X1_at (nI x0) (nI y0) 8 64 bg' = _ from g_at (s := 8) (by omega) (by omega) (by decide) rfl bg')) ?_
  rw [e]
end OS
section OR
variable (r : Nat → Int32) (tc : Int64) (mr : Nat → Int32) (pd : Int32) (mp : Nat → Int32) (ta : Nat → Int32) (fs : Int32)
/-- both begin so: the chances of a game by who serves, and the reference's rows of a set -/
theorem o_begin {a b P G S h k : Nat} (hok : s_ok a b P G S h k) (hr : s_rules r a b P G S h k) (hm : s_rules mr a b P G S h k) : ∃ (ga gb : Nat), ga ≤ 1000000 ∧ gb ≤ 1000000 ∧ (∀ {α : Type} (to : Int32) (un : Int64) (fc fl : Nat → Int64) (g : Int64 → Int64 → Int32 → Int64 → (Nat → Int64) → (Nat → Int64) → Option α), ∃ (to' : Int32) (un' : Int64) (fc' fl' : Nat → Int64), q_b5 (f_X0_inMillionths 0 r to un fc fl) (fun r1 to2 un3 fc4 fl5 => q_b5 (f_X0_inMillionths 1 r to2 un3 fc4 fl5) (fun r7 to8 un9 fc10 fl11 => g r1 r7 to8 un9 fc10 fl11)) = g (lN ga) (lN gb) to' un' fc' fl') ∧ (∀ (th : Int32) (ch la : Nat → Int64) (be : Int64) (se : Nat → Int64), ∃ (ch' la' : Nat → Int64) (be' : Int64) (se' : Nat → Int64), f_X7_worksSets th tc mr pd mp ch la be se ta fs = some (ch', la', be', se') ∧ v_In G ga gb 0 (G + 2) 0 se') := by
  obtain ⟨ga, w0, g1, g2, g3⟩ := n_game r tc mr pd mp ta fs hok hr hm (show 0 ≤ 1 by omega)
  obtain ⟨gb, w1, k1, k2, k3⟩ := n_game r tc mr pd mp ta fs hok hr hm (show 1 ≤ 1 by omega)
  obtain ⟨m0, m1, m2, m3, m4, m5, m6⟩ := hm
  obtain ⟨o1, o2, o3, o4, o5, o6, o7, o8, o9, o10, o11, o12⟩ := hok
  refine ⟨ga, gb, g1, k1, ?_, ?_⟩
  · intro α to un fc fl g
    obtain ⟨fc1, fl1, q1⟩ := g2 to un fc fl
    obtain ⟨fc2, fl2, q2⟩ := k2 (nI P) (lN (g_U w0 k)) fc1 fl1
    refine ⟨nI P, lN (g_U w1 k), fc2, fl2, ?_⟩
    refine Eq.trans (p_b5 (show f_X0_inMillionths 0 r to un fc fl = _ from q1)) ?_
    exact p_b5 (show f_X0_inMillionths 1 r (nI P) (lN (g_U w0 k)) fc1 fl1 = _ from q2)
  · intro th ch la be se
    obtain ⟨ch1, la1, q1⟩ := g3 th ch la be se
    obtain ⟨ch2, la2, q2⟩ := k3 th ch1 la1 (lN (h_B w0)) se
    obtain ⟨y, se', q3, q4⟩ := v_all th tc mr pd mp ch2 la2 (lN (h_B w1)) ta fs (G := G) o8 g1 k1 (2 * G + 2) 1000 se (by omega) (by omega) (fun x y z h1 h2 h3 h4 h5 => absurd h5 (by omega))
    refine ⟨ch2, la2, lN (h_B w1), se', ?_, q4⟩
    rw [pk_m1] at q3
    unfold f_X7_worksSets
    refine Eq.trans (p_b4 (show f_X7_gameOf 0 th tc mr pd mp ch la be se ta fs = _ from q1)) ?_
    refine Eq.trans (p_b4 (show f_X7_gameOf 1 th tc mr pd mp ch1 la1 (lN (h_B w0)) se ta fs = _ from q2)) ?_
    rw [m3, show (2 : Int32) * nI G + 1 = nI (2 * G + 1) from by rw [show (2 : Int32) * nI G = nI (2 * G) from pk_mul 2 G, nI_1]]
    exact p_b2 q3
end OR
section OZ
variable (r : Nat → Int32) (to : Int32) (un : Int64) (fc fl bg bs : Nat → Int64) (wn pl : Nat → Int32) (tr : Int64) (th : Int32) (tc : Int64) (mr : Nat → Int32) (pd : Int32) (mp : Nat → Int32) (ch la : Nat → Int64) (be : Int64) (se : Nat → Int64) (ta : Nat → Int32) (fs : Int32)
theorem z_round (x1 x2 x3 : Int32) (h : z_I r wn pl tr tc mr pd mp ta fs) : ∃ (v : Int32) (to' : Int32) (un' : Int64) (fc' : (Nat → Int64)) (fl' : (Nat → Int64)) (bg' : (Nat → Int64)) (th' : Int32) (ch' : (Nat → Int64)) (la' : (Nat → Int64)) (be' : Int64) (se' : (Nat → Int64)), f_X6_round x1 x2 x3 r to un fc fl bg bs wn pl tr = some (v, to', un', fc', fl', bg') ∧ f_X7_round x1 x2 x3 th tc mr pd mp ch la be se ta fs = some (v, th', ch', la', be', se') ∧ z_I r wn pl tr tc mr pd mp ta fs := by
  obtain ⟨htr, a, b, P, G, S, hh, k, n, bits, hok, hr, hm, hn, hpd, hb, hl, hpl, hta⟩ := id h
  have r3 := hr.2.2.2.1
  have m3 := hm.2.2.2.1
  have hG1 := hok.2.2.2.2.2.2.1
  have hG6 := hok.2.2.2.2.2.2.2.1
  have n10 : ¬ (1 : Int32) = 0 := by decide
  rcases p_within x1 (a := 0) (n := G) (by decide) (by omega) with ⟨i6, i7⟩ | ⟨x, -, hx, e1, i6, i7⟩
  · refine ⟨-1, to, un, fc, fl, bg, 0, ch, la, be, se, ?_, ?_, h⟩
    · unfold f_X6_round
      rw [r3]
      exact p_b1 (show f_X6_within x1 0 (nI G) = some 0 from i6)
    · unfold f_X7_round
      rw [m3]
      exact p_b1 (show f_X7_in x1 0 (nI G) = some 0 from i7)
  rcases p_within x2 (a := 0) (n := G) (by decide) (by omega) with ⟨j6, j7⟩ | ⟨y, -, hy, e2, j6, j7⟩
  · refine ⟨-1, to, un, fc, fl, bg, 0, ch, la, be, se, ?_, ?_, h⟩
    · unfold f_X6_round
      rw [r3]
      refine Eq.trans (p_b1 (show f_X6_within x1 0 (nI G) = some 1 from i6)) ?_
      rw [if_neg n10]
      exact p_b1 (show f_X6_within x2 0 (nI G) = some 0 from j6)
    · unfold f_X7_round
      rw [m3]
      refine Eq.trans (p_b1 (show f_X7_in x1 0 (nI G) = some 1 from i7)) ?_
      rw [if_neg n10]
      exact p_b1 (show f_X7_in x2 0 (nI G) = some 0 from j7)
  rcases p_isEither x3 with ⟨k6, k7⟩ | ⟨s, hs, e3, k6, k7⟩
  · refine ⟨-1, to, un, fc, fl, bg, 0, ch, la, be, se, ?_, ?_, h⟩
    · unfold f_X6_round
      rw [r3]
      refine Eq.trans (p_b1 (show f_X6_within x1 0 (nI G) = some 1 from i6)) ?_
      rw [if_neg n10]
      refine Eq.trans (p_b1 (show f_X6_within x2 0 (nI G) = some 1 from j6)) ?_
      rw [if_neg n10]
      exact p_b1 k6
    · unfold f_X7_round
      rw [m3]
      refine Eq.trans (p_b1 (show f_X7_in x1 0 (nI G) = some 1 from i7)) ?_
      rw [if_neg n10]
      refine Eq.trans (p_b1 (show f_X7_in x2 0 (nI G) = some 1 from j7)) ?_
      rw [if_neg n10]
      exact p_b1 k7
  obtain ⟨ga, gb, hga, hgb, g2, g3⟩ := o_begin r tc mr pd mp ta fs hok hr hm
  obtain ⟨bg', q1⟩ := o_set r bs r3 hG6 hG1 hx hy hs hga hgb bg
  obtain ⟨to', un', fc', fl', q2⟩ := g2 to un fc fl (fun r1 r7 to8 un9 fc10 fl11 => q_b2 (f_X2_ofSet x1 x2 x3 r1 r7 r bg bs) (fun r22 bg23 => some (Int64.toInt32 r22, to8, un9, fc10, fl11, bg23)))
  obtain ⟨ch', la', be', se', q3, q4⟩ := g3 0 ch la be se
  refine ⟨Int64.toInt32 (lN (v_S G ga gb (2 * G - x - y) x y s)), to', un', fc', fl', bg', 0, ch', la', be', se', ?_, ?_, h⟩
  · unfold f_X6_round
    rw [r3]
    refine Eq.trans (p_b1 (show f_X6_within x1 0 (nI G) = some 1 from i6)) ?_
    rw [if_neg n10]
    refine Eq.trans (p_b1 (show f_X6_within x2 0 (nI G) = some 1 from j6)) ?_
    rw [if_neg n10]
    refine Eq.trans (p_b1 k6) ?_
    rw [if_neg n10]
    refine Eq.trans q2 ?_
    refine p_b2 (a := lN (v_S G ga gb (2 * G - x - y) x y s)) (b := bg') ?_
    rw [e1, e2, e3]
    exact q1
  · unfold f_X7_round
    rw [m3]
    refine Eq.trans (p_b1 (show f_X7_in x1 0 (nI G) = some 1 from i7)) ?_
    rw [if_neg n10]
    refine Eq.trans (p_b1 (show f_X7_in x2 0 (nI G) = some 1 from j7)) ?_
    rw [if_neg n10]
    refine Eq.trans (p_b1 k7) ?_
    rw [if_neg n10]
    refine Eq.trans (p_b4 q3) ?_
    rw [e1, e2, e3, v_ix, if_neg (p_gd (show 2 * (8 * x + y) + s < 128 by omega) (by decide)), p_cl (by omega), q4 x y s (by omega) (by omega) (by omega) hs (by omega)]
end OZ
