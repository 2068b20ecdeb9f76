/-! Numbers, and the small bodies. -/
theorem p_b1 {α β : Type} {a : α} {g : α → Option β} {x : Option α} (h : x = some a) : q_b1 x g = g a := by rw [h]; rfl
theorem p_b2 {α β γ : Type} {a : α} {b : β} {g : α → β → Option γ} {x : Option (α × β)} (h : x = some (a, b)) : q_b2 x g = g a b := by rw [h]; rfl
theorem p_b3 {α β γ δ : Type} {a : α} {b : β} {c : γ} {g : α → β → γ → Option δ} {x : Option (α × β × γ)} (h : x = some (a, b, c)) : q_b3 x g = g a b c := by rw [h]; rfl
theorem p_b4 {α β γ δ ε : Type} {a : α} {b : β} {c : γ} {d : δ} {g : α → β → γ → δ → Option ε} {x : Option (α × β × γ × δ)} (h : x = some (a, b, c, d)) : q_b4 x g = g a b c d := by rw [h]; rfl
theorem p_b5 {α β γ δ ε ζ : Type} {a : α} {b : β} {c : γ} {d : δ} {e : ε} {g : α → β → γ → δ → ε → Option ζ} {x : Option (α × β × γ × δ × ε)} (h : x = some (a, b, c, d, e)) : q_b5 x g = g a b c d e := by rw [h]; rfl
theorem p_0 : (0 : Int32) = nI 0 := by decide
theorem p_1 : (1 : Int32) = nI 1 := by decide
theorem p_2 : (2 : Int32) = nI 2 := by decide
theorem p_3 : (3 : Int32) = nI 3 := by decide
theorem p_400 : (400 : Int32) = nI 400 := by decide
theorem p_cl {n : Nat} (h : n < 2 ^ 31) : Int32.toNatClampNeg (nI n) = n := nI_clamp h
/-- a guard of an index that holds -/
theorem p_gd {n N : Nat} (h : n < N) (hN : N < 2 ^ 31) : ¬ (nI n < 0 ∨ N ≤ Int32.toNatClampNeg (nI n)) := vp_in_nI h hN
theorem p_ni (x : Int32) (n : Nat) (hn : n < 2 ^ 31) : x < 0 ∨ nI n < x ∨ ∃ j : Nat, j ≤ n ∧ x = nI j := by
  by_cases h : x < 0
  · exact Or.inl h
  · obtain ⟨j, hj, e⟩ := nI_of h
    by_cases h2 : j ≤ n
    · exact Or.inr (Or.inr ⟨j, h2, e⟩)
    · exact Or.inr (Or.inl (by rw [e]; exact nI_lt (by omega) hj))
theorem p_within (x : Int32) {a n : Nat} (ha : a < 2 ^ 31) (hn : n < 2 ^ 31) : (f_X6_within x (nI a) (nI n) = some 0 ∧ f_X7_in x (nI a) (nI n) = some 0) ∨ ∃ j : Nat, a ≤ j ∧ j ≤ n ∧ x = nI j ∧ f_X6_within x (nI a) (nI n) = some 1 ∧ f_X7_in x (nI a) (nI n) = some 1 := by
  by_cases h : x < nI a
  · left
    exact ⟨by unfold f_X6_within; rw [if_pos h]; rfl, by unfold f_X7_in; rw [if_pos h]; rfl⟩
  · by_cases h2 : nI n < x
    · left
      exact ⟨by unfold f_X6_within; rw [if_neg h, if_pos h2]; rfl, by unfold f_X7_in; rw [if_neg h, if_pos h2]; rfl⟩
    · right
      have h0 : ¬ x < 0 := by
        intro q
        apply h
        have h3 : x.toInt < 0 := Int32.lt_iff_toInt_lt.mp q
        have h4 : (nI a).toInt = (a : Int) := nI_toInt ha
        exact Int32.lt_iff_toInt_lt.mpr (by omega)
      obtain ⟨j, hj, e⟩ := nI_of h0
      subst e
      have ha' : a ≤ j := by
        rcases Nat.lt_or_ge j a with q | q
        · exact absurd (nI_lt q ha) h
        · exact q
      have hn' : j ≤ n := by
        rcases Nat.lt_or_ge n j with q | q
        · exact absurd (nI_lt q hj) h2
        · exact q
      exact ⟨j, ha', hn', rfl, by unfold f_X6_within; rw [if_neg h, if_neg h2], by unfold f_X7_in; rw [if_neg h, if_neg h2]⟩
theorem p_isEither (x : Int32) : (f_X6_isEither x = some 0 ∧ f_X7_in x 0 1 = some 0) ∨ ∃ j : Nat, j ≤ 1 ∧ x = nI j ∧ f_X6_isEither x = some 1 ∧ f_X7_in x 0 1 = some 1 := by
  rcases p_within x (a := 0) (n := 1) (by decide) (by decide) with ⟨-, h⟩ | ⟨j, -, hj, e, -, h⟩
  · left
    refine ⟨?_, h⟩
    have n0 : ¬ x = 0 := fun q => by rw [q] at h; revert h; decide
    have n1 : ¬ x = 1 := fun q => by rw [q] at h; revert h; decide
    unfold f_X6_isEither
    rw [if_neg n0, if_neg n1]
  · right
    refine ⟨j, hj, e, ?_, h⟩
    rw [e]
    rcases (show j = 0 ∨ j = 1 by omega) with rfl | rfl <;> rfl
/-- who leads -/
def s_lead (i j : Nat) : Nat := if j < i then 1 else if i < j then 2 else 0
theorem p_leader {i j : Nat} (hi : i ≤ 1000) (hj : j ≤ 1000) : f_X5_leader (nI i) (nI j) = some (nI (s_lead i j)) := by
  unfold f_X5_leader s_lead
  simp (disch := omega) only [p_0, p_1, p_2, nI_leI]
  repeat' split
  all_goals first
    | rfl
    | omega
    | (exfalso; omega)
    | (exfalso; simp_all; done)
theorem p_gw113 (r : Nat → Int32) {i j b : Nat} (hi : i ≤ 1000) (hj : j ≤ 1000) (hb : b ≤ 1) : b_X5_gameWinner_113 (nI i) (nI j) (nI b) r = some (nI (if b = 0 then 0 else s_lead i j)) := by
  unfold b_X5_gameWinner_113
  rw [p_b1 (p_leader hi hj)]
  simp (disch := omega) only [p_0, nI_eq]
  split <;> rfl
theorem p_gw72 (r : Nat → Int32) {P k i j M m b : Nat} (hP : r 2 = nI P) (hP1 : 1 ≤ P) (hP5 : P ≤ 5) (hk : k ≤ 2) (hi : i ≤ 1000) (hj : j ≤ 1000) (hM : M ≤ 1000) (hm : m ≤ 1000) (hb : b ≤ 1) : b_X5_gameWinner_72 (nI k) (nI i) (nI j) (nI M) (nI m) (nI b) r = some (nI (if b = 1 ∨ (2 ≤ k ∧ 3 ≤ P ∧ P ≤ M + 1 ∧ m = 0) then s_lead i j else 0)) := by
  unfold b_X5_gameWinner_72 b_X5_gameWinner_106 b_X5_gameWinner_110 b_X5_gameWinner_111
  rw [hP, (show b_X5_gameWinner_113 (nI i) (nI j) 0 r = _ from p_gw113 r hi hj (b := 0) (by omega)), (show b_X5_gameWinner_113 (nI i) (nI j) 1 r = _ from p_gw113 r hi hj (b := 1) (by omega)), p_gw113 r hi hj hb, (show nI P - 1 = _ from pk_sub hP1)]
  simp (disch := omega) only [p_0, p_2, p_3, nI_eq, nI_ltI, if_true, if_false]
  repeat' split
  all_goals first
    | rfl
    | omega
    | (exfalso; omega)
    | (exfalso; simp_all; done)
theorem p_gw37 (r : Nat → Int32) {P k i j M m b : Nat} (hP : r 2 = nI P) (hP1 : 1 ≤ P) (hP5 : P ≤ 5) (hk : k ≤ 2) (hi : i ≤ 1000) (hj : j ≤ 1000) (hM : M ≤ 1000) (hm : m ≤ 1000) (hb : b ≤ 1) : b_X5_gameWinner_37 (nI k) (nI i) (nI j) (nI M) (nI m) (nI b) r = some (nI (if b = 1 ∨ (1 ≤ k ∧ P ≤ M ∧ m < M) ∨ (2 ≤ k ∧ 3 ≤ P ∧ P ≤ M + 1 ∧ m = 0) then s_lead i j else 0)) := by
  unfold b_X5_gameWinner_37 b_X5_gameWinner_65 b_X5_gameWinner_69 b_X5_gameWinner_70
  rw [hP, p_gw72 r hP hP1 hP5 hk hi hj hM hm hb, (show b_X5_gameWinner_72 (nI k) (nI i) (nI j) (nI M) (nI m) 0 r = _ from p_gw72 r hP hP1 hP5 hk hi hj hM hm (b := 0) (by omega)), (show b_X5_gameWinner_72 (nI k) (nI i) (nI j) (nI M) (nI m) 1 r = _ from p_gw72 r hP hP1 hP5 hk hi hj hM hm (b := 1) (by omega))]
  simp (disch := omega) only [p_0, p_1, nI_eq, nI_ltI, nI_leI, if_true, if_false]
  repeat' split
  all_goals first
    | rfl
    | omega
    | (exfalso; omega)
    | (exfalso; simp_all; done)
theorem p_mx {i j : Nat} (hi : i ≤ 1000) (hj : j ≤ 1000) : (if nI i < nI j then nI j else nI i) = nI (max i j) := by
  by_cases h : i < j
  · rw [if_pos (nI_lt h (by omega)), Nat.max_eq_right (by omega)]
  · rw [if_neg (nI_nlt (by omega) (by omega)), Nat.max_eq_left (by omega)]
theorem p_mn {i j : Nat} (hi : i ≤ 1000) (hj : j ≤ 1000) : (if nI j < nI i then nI j else nI i) = nI (min i j) := by
  by_cases h : j < i
  · rw [if_pos (nI_lt h (by omega)), Nat.min_eq_right (by omega)]
  · rw [if_neg (nI_nlt (by omega) (by omega)), Nat.min_eq_left (by omega)]
/-- who has won a game, by the class -/
theorem p_gw (r : Nat → Int32) {P k i j : Nat} (hP : r 2 = nI P) (hP1 : 1 ≤ P) (hP5 : P ≤ 5) (hk : k ≤ 2) (hi : i ≤ 1000) (hj : j ≤ 1000) : f_X5_gameWinner (nI k) (nI i) (nI j) r = some (nI (s_won P k i j)) := by
  have hM : max i j ≤ 1000 := by omega
  have hm : min i j ≤ 1000 := by omega
  unfold f_X5_gameWinner b_X5_gameWinner_36
  rw [p_mx hi hj, p_mn hi hj, hP, (show b_X5_gameWinner_37 (nI k) (nI i) (nI j) (nI (max i j)) (nI (min i j)) 0 r = _ from p_gw37 r hP hP1 hP5 hk hi hj hM hm (b := 0) (by omega)), (show b_X5_gameWinner_37 (nI k) (nI i) (nI j) (nI (max i j)) (nI (min i j)) 1 r = _ from p_gw37 r hP hP1 hP5 hk hi hj hM hm (b := 1) (by omega)), pk_sub (show min i j ≤ max i j by omega)]
  simp (disch := omega) only [p_2, nI_ltI]
  unfold s_won s_lead
  rcases Nat.lt_trichotomy i j with h | h | h
  · rw [Nat.max_eq_right (by omega), Nat.min_eq_left (by omega)]
    repeat' split
    all_goals first
      | rfl
      | omega
      | (exfalso; omega)
      | (exfalso; simp_all; done)
  · rw [Nat.max_eq_right (by omega), Nat.min_eq_left (by omega)]
    repeat' split
    all_goals first
      | rfl
      | omega
      | (exfalso; omega)
      | (exfalso; simp_all; done)
  · rw [Nat.max_eq_left (by omega), Nat.min_eq_right (by omega)]
    repeat' split
    all_goals first
      | rfl
      | omega
      | (exfalso; omega)
      | (exfalso; simp_all; done)
section PWO
variable (th : Int32) (tc : Int64) (mr : Nat → Int32) (pd : Int32) (mp : Nat → Int32) (ch la : Nat → Int64) (be : Int64) (se : Nat → Int64) (ta : Nat → Int32) (fs : Int32)
theorem p_wo72 {P k i j : Nat} (hP1 : 1 ≤ P) (hP5 : P ≤ 5) (hk : k ≤ 2) (hi : i ≤ 1000) (hj : j ≤ 1000) : b_X7_wonOf_72 (nI k) (nI i) (nI j) (nI P) th tc mr pd mp ch la be se ta fs = some (nI (if 2 ≤ k ∧ 3 ≤ P ∧ P ≤ i + 1 ∧ j = 0 then 1 else if 2 ≤ k ∧ 3 ≤ P ∧ P ≤ j + 1 ∧ i = 0 then 2 else 0)) := by
  unfold b_X7_wonOf_72 b_X7_wonOf_99 b_X7_wonOf_115
  rw [(show nI P - 1 = _ from pk_sub hP1)]
  simp (disch := omega) only [p_0, p_1, p_2, p_3, nI_ltI, nI_leI, nI_eq]
  repeat' split
  all_goals first
    | rfl
    | omega
    | (exfalso; omega)
    | (exfalso; simp_all; done)
theorem p_wo38 {P k i j : Nat} (hP1 : 1 ≤ P) (hP5 : P ≤ 5) (hk : k ≤ 2) (hi : i ≤ 1000) (hj : j ≤ 1000) : b_X7_wonOf_38 (nI k) (nI i) (nI j) (nI P) th tc mr pd mp ch la be se ta fs = some (nI (if 1 ≤ k ∧ P ≤ i ∧ j < i then 1 else if 1 ≤ k ∧ P ≤ j ∧ i < j then 2 else if 2 ≤ k ∧ 3 ≤ P ∧ P ≤ i + 1 ∧ j = 0 then 1 else if 2 ≤ k ∧ 3 ≤ P ∧ P ≤ j + 1 ∧ i = 0 then 2 else 0)) := by
  unfold b_X7_wonOf_38 b_X7_wonOf_55
  rw [p_wo72 th tc mr pd mp ch la be se ta fs hP1 hP5 hk hi hj]
  simp (disch := omega) only [p_0, p_1, p_2, nI_ltI, nI_leI, nI_eq]
  repeat' split
  all_goals first
    | rfl
    | omega
    | (exfalso; omega)
    | (exfalso; simp_all; done)
theorem p_sL {a b c : Nat} (ha : a ≤ 1000) (hb : b ≤ 1000) (hc : c ≤ 1000) : (nI a - nI b < nI c ↔ a < b + c) := by
  have e1 : (nI a - nI b).toInt = (a : Int) - b := pk_sub_toInt (by omega) (by omega)
  have e2 : (nI c).toInt = (c : Int) := nI_toInt (by omega)
  rw [Int32.lt_iff_toInt_lt, e1, e2]
  omega
/-- who has won a game, by the reference -/
theorem p_wo {P k i j : Nat} (hP : mr 2 = nI P) (hP1 : 1 ≤ P) (hP5 : P ≤ 5) (hk : k ≤ 2) (hi : i ≤ 1000) (hj : j ≤ 1000) : f_X7_wonOf (nI k) (nI i) (nI j) th tc mr pd mp ch la be se ta fs = some (nI (s_won P k i j)) := by
  unfold f_X7_wonOf b_X7_wonOf_23
  rw [hP, p_wo38 th tc mr pd mp ch la be se ta fs hP1 hP5 hk hi hj]
  simp (disch := omega) only [p_2, nI_ltI, p_sL]
  unfold s_won
  repeat' split
  all_goals first
    | rfl
    | omega
    | (exfalso; omega)
    | (exfalso; simp_all; done)
end PWO
theorem p_matchW (r : Nat → Int32) {S u v : Nat} (hS : r 4 = nI S) (hS3 : S ≤ 3) (hu : u ≤ 1000) (hv : v ≤ 1000) : f_X5_matchWinner (nI u) (nI v) r = some (nI (if S ≤ u ∨ S ≤ v then s_lead u v else 0)) := by
  unfold f_X5_matchWinner b_X5_matchWinner_16
  rw [p_b1 (p_leader hu hv), hS]
  simp (disch := omega) only [p_0, nI_leI, nI_ltI]
  repeat' split
  all_goals first
    | rfl
    | omega
    | (exfalso; omega)
    | (exfalso; simp_all; done)
theorem p_setW45 (r : Nat → Int32) {x y a b : Nat} (hx : x ≤ 1000) (hy : y ≤ 1000) (ha : a ≤ 1) (hb : b ≤ 1) : b_X5_setWinner_45 (nI x) (nI y) (nI a) (nI b) r = some (nI (if a = 1 ∨ b = 1 then s_lead x y else 0)) := by
  unfold b_X5_setWinner_45 b_X5_setWinner_56
  rw [p_b1 (p_leader hx hy)]
  simp (disch := omega) only [p_0, nI_eq]
  repeat' split
  all_goals first
    | rfl
    | omega
    | (exfalso; omega)
    | (exfalso; simp_all; done)
theorem p_setW27 (r : Nat → Int32) {G x y a : Nat} (hG : r 3 = nI G) (hG6 : G ≤ 6) (hx : x ≤ 1000) (hy : y ≤ 1000) (ha : a ≤ 1) : b_X5_setWinner_27 (nI x) (nI y) (nI a) r = some (nI (if a = 1 ∨ 2 * G < x + y then s_lead x y else 0)) := by
  unfold b_X5_setWinner_27
  rw [hG, (show 2 * nI G = _ from pk_mul 2 G), nI_add, (show b_X5_setWinner_45 (nI x) (nI y) (nI a) 0 r = _ from p_setW45 r hx hy ha (b := 0) (by omega)), (show b_X5_setWinner_45 (nI x) (nI y) (nI a) 1 r = _ from p_setW45 r hx hy ha (b := 1) (by omega))]
  simp (disch := omega) only [nI_leI]
  repeat' split
  all_goals first
    | rfl
    | omega
    | (exfalso; omega)
    | (exfalso; simp_all; done)
theorem p_setW (r : Nat → Int32) {G x y : Nat} (hG : r 3 = nI G) (hG6 : G ≤ 6) (hx : x ≤ 1000) (hy : y ≤ 1000) : f_X5_setWinner (nI x) (nI y) r = some (nI (if (G ≤ x ∧ y + 2 ≤ x) ∨ (G ≤ y ∧ x + 2 ≤ y) ∨ 2 * G < x + y then s_lead x y else 0)) := by
  have e1 : (nI x - nI y).toInt = (x : Int) - y := pk_sub_toInt (by omega) (by omega)
  have e0 : (0 : Int32).toInt = 0 := rfl
  unfold f_X5_setWinner b_X5_setWinner_26
  rw [p_mx hx hy, hG]
  by_cases h : y ≤ x
  · rw [if_pos (Int32.le_iff_toInt_le.mpr (show (0 : Int32).toInt ≤ (nI x - nI y).toInt by rw [e1, e0]; omega)), pk_sub h, Nat.max_eq_left h, (show b_X5_setWinner_27 (nI x) (nI y) 0 r = _ from p_setW27 r hG hG6 hx hy (a := 0) (by omega)), (show b_X5_setWinner_27 (nI x) (nI y) 1 r = _ from p_setW27 r hG hG6 hx hy (a := 1) (by omega))]
    simp (disch := omega) only [p_2, nI_ltI]
    repeat' split
    all_goals first
      | rfl
      | omega
      | (exfalso; omega)
      | (exfalso; simp_all; done)
  · have e2 : 0 - (nI x - nI y) = nI (y - x) := by rw [← pk_sub (show x ≤ y by omega), Int32.zero_sub, Int32.neg_sub]
    rw [if_neg (show ¬ (0 ≤ nI x - nI y) from fun q => by have := Int32.le_iff_toInt_le.mp q; rw [e1, e0] at this; omega), e2, Nat.max_eq_right (show x ≤ y by omega), (show b_X5_setWinner_27 (nI x) (nI y) 0 r = _ from p_setW27 r hG hG6 hx hy (a := 0) (by omega)), (show b_X5_setWinner_27 (nI x) (nI y) 1 r = _ from p_setW27 r hG hG6 hx hy (a := 1) (by omega))]
    simp (disch := omega) only [p_2, nI_ltI]
    repeat' split
    all_goals first
      | rfl
      | omega
      | (exfalso; omega)
      | (exfalso; simp_all; done)
