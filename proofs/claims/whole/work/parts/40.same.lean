/-! both rows name the same fractions -/
def i_T (w x : Nat) : Nat := if x = 0 then w * w else 200
def i_R (w x : Nat) : Nat := x * (h_e w * 10 ^ 1) + w * ((1 - x) * (h_e w * 10 ^ 0)) + (10 - w) * i_T w x
def i_L (w x : Nat) : Nat := x * (h_e w * 10 ^ 1) + w * i_T w x + (10 - w) * 0
theorem i_f1 : ∀ w, w < 10 → ∀ x, x < 2 → i_T w x * h_B w = (if x = 0 then w * w * 1000000000 else 200000000000) * (h_e w * 10 ^ 0) := by decide +kernel
theorem i_f2 : ∀ w, w < 10 → ∀ x, x < 2 → i_R w x * h_B w = (if x = 0 then (w * h_e w + (10 - w) * w * w) * 100000000 else (10 * h_e w + 200 * (10 - w)) * 100000000) * (h_e w * 10 ^ 1) := by decide +kernel
theorem i_f3 : ∀ w, w < 10 → ∀ x, x < 2 → i_L w x * h_B w = (if x = 0 then w * w * w * 100000000 else (10 * h_e w + 200 * w) * 100000000) * (h_e w * 10 ^ 1) := by decide +kernel
theorem i_f4 : ∀ w, w < 10 → ∀ x, x < 2 → (x * (h_e w * 10 ^ 2) + w * i_R w x + (10 - w) * i_L w x) * h_B w = (if x = 0 then w * w * 1000000000 else 200000000000) * (h_e w * 10 ^ 2) := by decide +kernel
theorem i_f5 : ∀ w, w < 10 → ∀ x, x < 2 → 10 ^ 8 ∣ (if x = 0 then w * w * 1000000000 else 200000000000) := by decide +kernel
theorem i_f6 : ∀ w, w < 10 → w * w * 1000000000 ≤ h_B w ∧ w * w * w * 100000000 ≤ h_B w ∧ (w * h_e w + (10 - w) * w * w) * 100000000 ≤ h_B w := by decide +kernel
theorem i_Fe (w x i : Nat) : h_F w x i i = if x = 0 then w * w * 1000000000 else 200000000000 := by
  unfold h_F
  rw [if_pos rfl, if_pos rfl]
theorem i_Fl {w x i j : Nat} (h : i < j) : h_F w x i j = if x = 0 then w * w * w * 100000000 else (10 * h_e w + 200 * w) * 100000000 := by
  unfold h_F
  rw [if_neg (show ¬ i = j by omega), if_neg (show ¬ i = j by omega), if_pos (show i ≤ j by omega), if_pos (show i ≤ j by omega)]
theorem i_Fg {w x i j : Nat} (h : j < i) : h_F w x i j = if x = 0 then (w * h_e w + (10 - w) * w * w) * 100000000 else (10 * h_e w + 200 * (10 - w)) * 100000000 := by
  unfold h_F
  rw [if_neg (show ¬ i = j by omega), if_neg (show ¬ i = j by omega), if_neg (show ¬ i ≤ j by omega), if_neg (show ¬ i ≤ j by omega)]
theorem i_w0 {P k i j : Nat} (h : s_won P k i j = 0) (hk0 : k = 0 ∨ i < P ∨ j < P) (hc : ¬ (k = 0 ∧ P ≤ i + 1 ∧ P ≤ j + 1)) (hij : i + j ≤ 2 * P) : i < P ∧ j < P ∧ (s_won P k (i + 1) j ≠ 0 ∨ i + 1 < P) ∧ (s_won P k i (j + 1) ≠ 0 ∨ j + 1 < P) := by
  obtain ⟨h1, h2⟩ := g_in h hij
  have h3 : i < P ∧ j < P := by
    unfold s_won at h
    repeat' split at h
    all_goals omega
  refine ⟨h3.1, h3.2, ?_, ?_⟩
  · by_cases c : i + 1 < P
    · exact Or.inr c
    · refine Or.inl ?_
      unfold s_won
      repeat' split
      all_goals omega
  · by_cases c : j + 1 < P
    · exact Or.inr c
    · refine Or.inl ?_
      unfold s_won
      repeat' split
      all_goals omega
theorem i_U (w : Nat) {k : Nat} (h : k = 0) : g_U w k = h_e w := by
  unfold g_U h_e
  rw [if_pos h]
theorem i_id {w P k x : Nat} (hw : w < 10) (hx : x < 2) (hP1 : 1 ≤ P) (hP5 : P ≤ 5) : ∀ (d i j : Nat), i + j + d = 2 * P → (k = 0 ∨ i < P ∨ j < P) → (g_V w (g_U w k) P k x d i j * h_B w = h_V w P k x (d + 2) i j * (g_U w k * 10 ^ d) ∧ (s_won P k i j ≠ 0 ∨ (i < P ∧ j < P) → 1 ≤ d → 10 ^ (10 - d) ∣ h_V w P k x (d + 2) i j)) := by
  have hBd : ∀ d, 1 ≤ d → 10 ^ (10 - d) ∣ h_B w := fun d hd => Nat.dvd_trans (Nat.pow_dvd_pow 10 (show 10 - d ≤ 9 by omega)) (show 10 ^ 9 ∣ h_B w from ⟨h_e w, rfl⟩)
  have hnw : ∀ d i j, s_won P k i j ≠ 0 → (g_V w (g_U w k) P k x d i j * h_B w = h_V w P k x (d + 2) i j * (g_U w k * 10 ^ d) ∧ (s_won P k i j ≠ 0 ∨ (i < P ∧ j < P) → 1 ≤ d → 10 ^ (10 - d) ∣ h_V w P k x (d + 2) i j)) := by
    intro d i j c
    rw [g_Vn c, h_Vn c]
    by_cases c1 : s_won P k i j = 1
    · rw [if_pos c1, if_pos c1]
      refine ⟨by rw [Nat.mul_right_comm], fun _ hd => Nat.dvd_trans (hBd d hd) (Nat.dvd_mul_left _ _)⟩
    · rw [if_neg c1, if_neg c1, Nat.zero_mul, Nat.zero_mul]
      exact ⟨rfl, fun _ _ => Nat.dvd_zero _⟩
  have hPP : k = 0 → s_won P k P P = 0 := by
    intro hk
    unfold s_won
    repeat' split
    all_goals omega
  intro d
  induction d with
  | zero =>
    intro i j hd hk0
    by_cases c0 : s_won P k i j = 0
    · obtain ⟨h1, h2⟩ := g_in c0 (by omega)
      have ei : i = P := by omega
      have ej : j = P := by omega
      have hk : k = 0 := by omega
      subst ei; subst ej
      rw [g_V0 c0, h_Vc c0 (by omega), i_Fe, i_U w hk]
      exact ⟨i_f1 w hw x hx, fun _ h => absurd h (by decide)⟩
    · exact hnw 0 i j c0
  | succ d ih =>
    intro i j hd hk0
    by_cases c0 : s_won P k i j = 0
    · by_cases hc : k = 0 ∧ P ≤ i + 1 ∧ P ≤ j + 1
      · obtain ⟨hk, p1, p2⟩ := hc
        obtain ⟨h1, h2⟩ := g_in c0 (by omega)
        have ePP := hPP hk
        have eU := i_U w hk
        have w1 : s_won P k (P + 1) (P - 1) = 1 := by
          unfold s_won
          rw [if_pos (by omega)]
        have w2 : s_won P k (P - 1) (P + 1) = 2 := by
          unfold s_won
          rw [if_neg (by omega), if_pos (by omega)]
        have w3 : s_won P k P (P - 1) = 0 := by
          unfold s_won
          repeat' split
          all_goals omega
        have w4 : s_won P k (P - 1) P = 0 := by
          unfold s_won
          repeat' split
          all_goals omega
        have v1 : g_V w (g_U w k) P k x 1 P (P - 1) = i_R w x := by
          rw [g_Vs w3, show P - 1 + 1 = P by omega, g_V0 ePP, g_Vn (by rw [w1]; decide), if_pos w1, eU]
          rfl
        have v2 : g_V w (g_U w k) P k x 1 (P - 1) P = i_L w x := by
          rw [g_Vs w4, show P - 1 + 1 = P by omega, g_V0 ePP, g_Vn (by rw [w2]; decide), if_neg (show ¬ s_won P k (P - 1) (P + 1) = 1 by rw [w2]; decide), eU]
          rfl
        rw [h_Vc c0 ⟨hk, p1, p2⟩]
        rcases (show (i = P ∧ j = P - 1 ∧ d = 0) ∨ (i = P - 1 ∧ j = P ∧ d = 0) ∨ (i = P - 1 ∧ j = P - 1 ∧ d = 1) by omega) with ⟨e1, e2, e3⟩ | ⟨e1, e2, e3⟩ | ⟨e1, e2, e3⟩
        · subst e1; subst e2; subst e3
          rw [v1, i_Fg (by omega), eU]
          exact ⟨i_f2 w hw x hx, fun h => by omega⟩
        · subst e1; subst e2; subst e3
          rw [v2, i_Fl (by omega), eU]
          exact ⟨i_f3 w hw x hx, fun h => by omega⟩
        · subst e1; subst e2; subst e3
          rw [g_Vs c0, show P - 1 + 1 = P by omega, v1, v2, i_Fe, eU]
          exact ⟨i_f4 w hw x hx, fun _ _ => i_f5 w hw x hx⟩
      · obtain ⟨h1, h2, h3, h4⟩ := i_w0 c0 hk0 hc (by omega)
        obtain ⟨a1, a2⟩ := ih (i + 1) j (by omega) (by omega)
        obtain ⟨b1, b2⟩ := ih i (j + 1) (by omega) (by omega)
        obtain ⟨a, ha⟩ := a2 (by omega) (by omega)
        obtain ⟨b, hb⟩ := b2 (by omega) (by omega)
        have ep : 10 ^ (10 - d) = 10 ^ (10 - (d + 1)) * 10 := by rw [show 10 - d = 10 - (d + 1) + 1 by omega, Nat.pow_succ]
        have es : w * h_V w P k x (d + 2) (i + 1) j + (10 - w) * h_V w P k x (d + 2) i (j + 1) = 10 ^ (10 - (d + 1)) * (w * a + (10 - w) * b) * 10 := by
          rw [ha, hb, ep, Nat.mul_add, Nat.add_mul]
          congr 1 <;> ac_rfl
        have ed : (w * h_V w P k x (d + 2) (i + 1) j + (10 - w) * h_V w P k x (d + 2) i (j + 1)) / 10 = 10 ^ (10 - (d + 1)) * (w * a + (10 - w) * b) := by
          rw [es, Nat.mul_div_cancel _ (by decide)]
        rw [g_Vs c0, show d + 1 + 2 = (d + 2) + 1 from rfl, h_Vs c0 hc]
        refine ⟨?_, fun _ _ => ?_⟩
        · have e1 : (w * h_V w P k x (d + 2) (i + 1) j + (10 - w) * h_V w P k x (d + 2) i (j + 1)) / 10 * 10 = w * h_V w P k x (d + 2) (i + 1) j + (10 - w) * h_V w P k x (d + 2) i (j + 1) := by rw [ed, es]
          have e2 : g_U w k * 10 ^ (d + 1) = 10 * (g_U w k * 10 ^ d) := by rw [Nat.pow_succ]; ac_rfl
          have e3 : (w * h_V w P k x (d + 2) (i + 1) j + (10 - w) * h_V w P k x (d + 2) i (j + 1)) / 10 * (10 * (g_U w k * 10 ^ d)) = w * (g_V w (g_U w k) P k x d (i + 1) j * h_B w) + (10 - w) * (g_V w (g_U w k) P k x d i (j + 1) * h_B w) := by
            rw [← Nat.mul_assoc, e1, a1, b1, Nat.add_mul]
            congr 1 <;> ac_rfl
          rw [e2, Nat.add_mul _ _ (10 * (g_U w k * 10 ^ d)), e3, Nat.add_mul, Nat.add_mul]
          have e4 : x * (10 * (g_U w k * 10 ^ d)) * h_B w = x * h_B w * (10 * (g_U w k * 10 ^ d)) := by ac_rfl
          rw [e4, Nat.add_assoc]
          congr 1
          congr 1 <;> ac_rfl
        · rw [ed]
          exact Nat.dvd_add (Nat.dvd_trans (hBd (d + 1) (by omega)) (Nat.dvd_mul_left _ _)) (Nat.dvd_mul_right _ _)
    · exact hnw (d + 1) i j c0
theorem i_RB {w P k : Nat} (hw : w < 10) : ∀ (d i j : Nat), h_V w P k 0 d i j ≤ h_B w := by
  obtain ⟨f1, f2, f3⟩ := i_f6 w hw
  have hF : ∀ i j, h_F w 0 i j ≤ h_B w := by
    intro i j
    unfold h_F
    rw [if_pos rfl]
    split
    · exact f1
    · split
      · exact f2
      · exact f3
  intro d
  induction d with
  | zero =>
    intro i j
    have := hF i j
    show (if s_won P k i j = 0 then (if k = 0 ∧ P ≤ i + 1 ∧ P ≤ j + 1 then h_F w 0 i j else 0) else if s_won P k i j = 1 then (1 - 0) * h_B w else 0) ≤ _
    repeat' split
    all_goals omega
  | succ d ih =>
    intro i j
    have := hF i j
    have a1 : w * h_V w P k 0 d (i + 1) j ≤ w * h_B w := Nat.mul_le_mul_left _ (ih _ _)
    have a2 : (10 - w) * h_V w P k 0 d i (j + 1) ≤ (10 - w) * h_B w := Nat.mul_le_mul_left _ (ih _ _)
    have a3 : w * h_B w + (10 - w) * h_B w = 10 * h_B w := by rw [← Nat.add_mul, show w + (10 - w) = 10 by omega]
    show (if s_won P k i j = 0 then (if k = 0 ∧ P ≤ i + 1 ∧ P ≤ j + 1 then h_F w 0 i j else 0 * h_B w + (w * h_V w P k 0 d (i + 1) j + (10 - w) * h_V w P k 0 d i (j + 1)) / 10) else if s_won P k i j = 1 then (1 - 0) * h_B w else 0) ≤ _
    repeat' split
    all_goals omega
theorem i_Bp : ∀ w, w < 10 → 0 < h_B w ∧ 0 < h_e w ∧ h_B w ≤ 181000000000 := by decide +kernel
theorem i_Up (w k : Nat) (hw : w < 10) : 0 < g_U w k ∧ g_U w k ≤ 181 ∧ g_U w k * 1000000000 ≤ h_B w := by
  have h1 := i_Bp w hw
  have h2 := h_e9 (show w ≤ 9 by omega)
  have h3 : h_B w = 1000000000 * h_e w := rfl
  by_cases c : k = 0
  · rw [i_U w c]; omega
  · unfold g_U; rw [if_neg c]; omega
theorem i_CU {w P k : Nat} (hw : w < 10) (hP1 : 1 ≤ P) (hP5 : P ≤ 5) {d i j : Nat} (hd : i + j + d = 2 * P) (hk0 : k = 0 ∨ i < P ∨ j < P) : g_V w (g_U w k) P k 0 d i j ≤ g_U w k * 10 ^ d := by
  have h1 := (i_id (k := k) (x := 0) hw (by decide) hP1 hP5 d i j hd hk0).1
  have h2 : h_V w P k 0 (d + 2) i j * (g_U w k * 10 ^ d) ≤ h_B w * (g_U w k * 10 ^ d) := Nat.mul_le_mul_right _ (i_RB hw _ _ _)
  rw [← h1, Nat.mul_comm (h_B w)] at h2
  exact Nat.le_of_mul_le_mul_right h2 (i_Bp w hw).1
theorem i_m1 {P k i j : Nat} (h : s_won P k i (j + 1) = 1) : s_won P k i j = 1 := by
  unfold s_won at h
  repeat' split at h
  all_goals first
    | omega
    | (unfold s_won; repeat' split; all_goals omega)
theorem i_m2 {P k i j : Nat} (h : s_won P k (i + 1) j = 2) : s_won P k i j = 2 := by
  unfold s_won
  by_cases p : P ≤ j ∧ i + 2 ≤ j
  · rw [if_neg (by omega), if_pos p]
  · by_cases q : 1 ≤ k ∧ P ≤ j ∧ i < j
    · rw [if_neg (by omega), if_neg p, if_neg (by omega), if_pos q]
    · exfalso
      unfold s_won at h
      repeat' split at h
      all_goals omega
theorem i_w {P k i j : Nat} (h : s_won P k i j = 0) (hij : i + j ≤ 2 * P) (hk0 : k = 0 ∨ i < P ∨ j < P) : k = 0 ∨ (i < P ∧ j < P) := by
  obtain ⟨h1, h2⟩ := g_in h hij
  unfold s_won at h
  repeat' split at h
  all_goals omega
theorem i_mono {w P k : Nat} (hw : w < 10) (hP1 : 1 ≤ P) (hP5 : P ≤ 5) : ∀ (d i j : Nat), i + j + d + 1 = 2 * P → (k = 0 ∨ i < P ∨ j < P) → s_won P k i j = 0 → g_V w (g_U w k) P k 0 d i (j + 1) ≤ g_V w (g_U w k) P k 0 d (i + 1) j := by
  have go : ∀ (d i j : Nat), i + j + d + 1 = 2 * P → (k = 0 ∨ i < P ∨ j < P) → s_won P k i j = 0 → (s_won P k (i + 1) j = 0 → s_won P k i (j + 1) = 0 → g_V w (g_U w k) P k 0 d i (j + 1) ≤ g_V w (g_U w k) P k 0 d (i + 1) j) → g_V w (g_U w k) P k 0 d i (j + 1) ≤ g_V w (g_U w k) P k 0 d (i + 1) j := by
    intro d i j hd hk0 c0 hh
    have hk1 := i_w c0 (by omega) hk0
    by_cases c1 : s_won P k (i + 1) j = 0
    · by_cases c2 : s_won P k i (j + 1) = 0
      · exact hh c1 c2
      · rw [g_Vn c2]
        by_cases c3 : s_won P k i (j + 1) = 1
        · have := i_m1 c3
          omega
        · rw [if_neg c3]
          exact Nat.zero_le _
    · have h2 := g_won2 P k (i + 1) j
      by_cases c3 : s_won P k (i + 1) j = 1
      · rw [g_Vn c1, if_pos c3, Nat.sub_zero, Nat.one_mul]
        exact i_CU hw hP1 hP5 (by omega) (by omega)
      · have := i_m2 (show s_won P k (i + 1) j = 2 by omega)
        omega
  intro d
  induction d with
  | zero =>
    intro i j hd hk0 c0
    refine go 0 i j hd hk0 c0 (fun c1 c2 => ?_)
    rw [g_V0 c1, g_V0 c2]
    exact Nat.le_refl _
  | succ d ih =>
    intro i j hd hk0 c0
    have hk1 := i_w c0 (by omega) hk0
    refine go (d + 1) i j hd hk0 c0 (fun c1 c2 => ?_)
    rw [g_Vs c1, g_Vs c2]
    simp only [Nat.zero_mul, Nat.zero_add]
    exact Nat.add_le_add (Nat.mul_le_mul_left _ (ih (i + 1) j (by omega) (by omega) c1)) (Nat.mul_le_mul_left _ (ih i (j + 1) (by omega) (by omega) c2))
/-! least forms -/
theorem i_least {C B R b : Nat} (h : C * B = R * b) (hB : 0 < B) (hb : 0 < b) : C / Nat.gcd C b = R / Nat.gcd R B ∧ b / Nat.gcd C b = B / Nat.gcd R B := by
  have h1 : Nat.gcd (C * B) (b * B) = Nat.gcd C b * B := Nat.gcd_mul_right C B b
  have h2 : Nat.gcd (R * b) (B * b) = Nat.gcd R B * b := Nat.gcd_mul_right R b B
  have h3 : Nat.gcd C b * B = Nat.gcd R B * b := by rw [← h1, ← h2, h, Nat.mul_comm b B]
  constructor
  · rw [← Nat.mul_div_mul_right C (Nat.gcd C b) hB, ← Nat.mul_div_mul_right R (Nat.gcd R B) hb, h, h3]
  · rw [← Nat.mul_div_mul_right b (Nat.gcd C b) hB, ← Nat.mul_div_mul_right B (Nat.gcd R B) hb, h3, Nat.mul_comm b B]
theorem i_gcd (a b : Nat) : Nat.gcd b (a % b) = Nat.gcd a b := by
  rw [Nat.gcd_comm a b, Nat.gcd_rec b a, Nat.gcd_comm]
theorem i_half {a b : Nat} (hb : 0 < b) (h : 0 < a % b) : 2 * (b % (a % b)) < b := by
  have h1 : a % b < b := Nat.mod_lt a hb
  have h2 : b % (a % b) < a % b := Nat.mod_lt b h
  have h3 := Nat.div_add_mod b (a % b)
  have h4 : 1 ≤ b / (a % b) := Nat.div_pos (Nat.le_of_lt h1) h
  have h5 : a % b * 1 ≤ a % b * (b / (a % b)) := Nat.mul_le_mul_left _ h4
  omega
theorem i_c1 (K : Int64 × Int64 → Option (Int64 × Int64)) {a b : Nat} (ha : a < 2 ^ 63) (hb : b < 2 ^ 63) : b_X7_common_6 K (lN a) (lN b) = if b = 0 then some (lN a, lN b) else K (lN b, lN (a % b)) := by
  unfold b_X7_common_6
  by_cases c : b = 0
  · rw [if_pos c, if_pos ((lg_cmp_eq _ _).mpr (by rw [c]; rfl))]
  · have hn : ¬ lN b = 0 := fun z => c ((pk_lEQ (b := 0) hb (by decide)).mp z)
    rw [if_neg c, if_neg (fun z => hn ((lg_cmp_eq _ _).mp z)), if_neg hn, pk_lRem ha (by omega) hb]
theorem i_common : ∀ (m a b F : Nat), b < 2 ^ m → a < 2 ^ 63 → b < 2 ^ 63 → 2 * m + 2 ≤ F → ∃ y : Int64, l_X7_common_6 F (lN a, lN b) = some (lN (Nat.gcd a b), y) := by
  intro m
  induction m with
  | zero =>
    intro a b F h1 h2 h3 hF
    obtain ⟨F, rfl⟩ : ∃ F', F = F' + 1 := ⟨F - 1, by omega⟩
    have e := i_c1 (l_X7_common_6 F) h2 h3
    rw [if_pos (show b = 0 by omega)] at e
    refine ⟨lN b, Eq.trans e ?_⟩
    rw [show b = 0 by omega, Nat.gcd_zero_right]
  | succ m ih =>
    intro a b F h1 h2 h3 hF
    obtain ⟨F, rfl⟩ : ∃ F', F = F' + 1 + 1 := ⟨F - 2, by omega⟩
    have e := i_c1 (l_X7_common_6 (F + 1)) h2 h3
    by_cases c : b = 0
    · rw [if_pos c] at e
      refine ⟨lN b, Eq.trans e ?_⟩
      rw [c, Nat.gcd_zero_right]
    · rw [if_neg c] at e
      have hr : a % b < b := Nat.mod_lt a (by omega)
      have e2 := i_c1 (l_X7_common_6 F) h3 (show a % b < 2 ^ 63 by omega)
      by_cases c2 : a % b = 0
      · rw [if_pos c2] at e2
        refine ⟨lN (a % b), Eq.trans e (Eq.trans e2 ?_)⟩
        rw [← i_gcd a b, c2, Nat.gcd_zero_right]
      · rw [if_neg c2] at e2
        have hh := i_half (a := a) (b := b) (by omega) (by omega)
        rw [Nat.pow_succ] at h1
        obtain ⟨y, q⟩ := ih (a % b) (b % (a % b)) F (by omega) (by omega) (by omega) (by omega)
        refine ⟨y, Eq.trans e (Eq.trans e2 (Eq.trans q ?_))⟩
        rw [i_gcd b (a % b), i_gcd a b]
theorem i_d1 (K : Int64 × Int64 × Int32 → Option (Int64 × Int64 × Int32)) {a b c : Nat} (ha : a < 2 ^ 63) (hb : b < 2 ^ 63) (hc : c < 200) : b_X6_greatestDivisor_9 K (lN a) (lN b) (nI c) = if b = 0 then some (lN a, lN b, nI c) else K (lN b, lN (a % b), nI (c + 1)) := by
  unfold b_X6_greatestDivisor_9
  rw [if_neg (show ¬ (200 : Int32) ≤ nI c from nI_ge hc (by decide))]
  by_cases cb : b = 0
  · rw [if_pos cb, if_pos ((lg_cmp_le _ _).mpr (by rw [cb]; decide))]
  · have hn : ¬ lN b = 0 := fun z => cb ((pk_lEQ (b := 0) hb (by decide)).mp z)
    rw [if_neg cb, if_neg (fun z => cb (by have := (pk_lLE (b := 0) hb (by decide)).mp ((lg_cmp_le _ _).mp z); omega)), if_neg hn, pk_lRem ha (by omega) hb, nI_1]
theorem i_divisor : ∀ (m a b c F : Nat), b < 2 ^ m → a < 2 ^ 63 → b < 2 ^ 63 → 2 * m + 2 ≤ F → c + (2 * m + 2) ≤ 200 → ∃ (y : Int64) (z : Int32), l_X6_greatestDivisor_9 F (lN a, lN b, nI c) = some (lN (Nat.gcd a b), y, z) := by
  intro m
  induction m with
  | zero =>
    intro a b c F h1 h2 h3 hF hc
    obtain ⟨F, rfl⟩ : ∃ F', F = F' + 1 := ⟨F - 1, by omega⟩
    have e := i_d1 (l_X6_greatestDivisor_9 F) h2 h3 (show c < 200 by omega)
    rw [if_pos (show b = 0 by omega)] at e
    refine ⟨lN b, nI c, Eq.trans e ?_⟩
    rw [show b = 0 by omega, Nat.gcd_zero_right]
  | succ m ih =>
    intro a b c F h1 h2 h3 hF hc
    obtain ⟨F, rfl⟩ : ∃ F', F = F' + 1 + 1 := ⟨F - 2, by omega⟩
    have e := i_d1 (l_X6_greatestDivisor_9 (F + 1)) h2 h3 (show c < 200 by omega)
    by_cases cb : b = 0
    · rw [if_pos cb] at e
      refine ⟨lN b, nI c, Eq.trans e ?_⟩
      rw [cb, Nat.gcd_zero_right]
    · rw [if_neg cb] at e
      have hr : a % b < b := Nat.mod_lt a (by omega)
      have e2 := i_d1 (l_X6_greatestDivisor_9 F) h3 (show a % b < 2 ^ 63 by omega) (show c + 1 < 200 by omega)
      by_cases c2 : a % b = 0
      · rw [if_pos c2] at e2
        refine ⟨lN (a % b), nI (c + 1), Eq.trans e (Eq.trans e2 ?_)⟩
        rw [← i_gcd a b, c2, Nat.gcd_zero_right]
      · rw [if_neg c2] at e2
        have hh := i_half (a := a) (b := b) (by omega) (by omega)
        rw [Nat.pow_succ] at h1
        obtain ⟨y, z, q⟩ := ih (a % b) (b % (a % b)) (c + 1 + 1) F (by omega) (by omega) (by omega) (by omega) (by omega)
        refine ⟨y, z, Eq.trans e (Eq.trans e2 (Eq.trans q ?_))⟩
        rw [i_gcd b (a % b), i_gcd a b]
theorem i_gcd7 {a b : Nat} (ha : a < 2 ^ 63) (hb : b < 2 ^ 45) : f_X7_common (lN a) (lN b) = some (lN (Nat.gcd a b)) := by
  obtain ⟨y, q⟩ := i_common 45 a b 1000 hb ha (by omega) (by omega)
  unfold f_X7_common
  exact p_b2 q
theorem i_least6 {a b p : Nat} (ha : a < 2 ^ 63) (hb : b < 2 ^ 45) (hb0 : 0 < b) (hp : p ≤ 1) : f_X6_inLeastForm (lN a) (lN b) (nI p) = some (lN ((if p = 0 then a else b) / Nat.gcd a b)) := by
  obtain ⟨y, z, q⟩ := i_divisor 45 a b 0 1000 hb ha (by omega) (by omega) (by omega)
  have hg0 : 0 < Nat.gcd a b := Nat.gcd_pos_of_pos_right a hb0
  have hgb : Nat.gcd a b ≤ b := Nat.le_of_dvd hb0 (Nat.gcd_dvd_right a b)
  have h17 : ∀ s, s < 2 ^ 63 → b_X6_inLeastForm_17 (lN (Nat.gcd a b)) (lN s) = some (lN (s / Nat.gcd a b)) := by
    intro s hs
    unfold b_X6_inLeastForm_17
    have hc1 : lg_cmp (lN (Nat.gcd a b)) 1 ≤ 0 ↔ Nat.gcd a b ≤ 1 := (lg_cmp_le _ _).trans (pk_lLE (b := 1) (by omega) (by decide))
    by_cases c : Nat.gcd a b ≤ 1
    · rw [if_pos (hc1.mpr c), show Nat.gcd a b = 1 by omega, Nat.div_one]
    · rw [if_neg (fun z => c (hc1.mp z)), if_neg (show ¬ lN (Nat.gcd a b) = 0 from fun z => absurd ((pk_lEQ (b := 0) (by omega) (by decide)).mp z) (by omega)), pk_lDiv hs hg0 (by omega)]
  unfold f_X6_inLeastForm
  refine Eq.trans (p_b1 (show f_X6_greatestDivisor (lN a) (lN b) = some (lN (Nat.gcd a b)) from by unfold f_X6_greatestDivisor; exact p_b3 q)) ?_
  by_cases c : p = 0
  · rw [if_pos (show nI p = 0 by rw [c]; rfl), if_pos c]
    exact h17 a ha
  · rw [if_neg (show ¬ nI p = 0 from fun z => c ((nI_eq (b := 0) (by omega) (by decide)).mp z)), if_neg c]
    exact h17 b (by omega)
section IPT
variable (th : Int32) (tc : Int64) (mr : Nat → Int32) (pd : Int32) (mp : Nat → Int32) (ch la : Nat → Int64) (se : Nat → Int64) (ta : Nat → Int32) (fs : Int32)
theorem i_part {a b p : Nat} (ha : a < 2 ^ 63) (hb : b < 2 ^ 45) (hb0 : 0 < b) (hp : p ≤ 1) : f_X7_part (lN a) (nI p) th tc mr pd mp ch la (lN b) se ta fs = some (lN ((if p = 0 then a else b) / Nat.gcd a b)) := by
  have hg0 : 0 < Nat.gcd a b := Nat.gcd_pos_of_pos_right a hb0
  have hgb : Nat.gcd a b ≤ b := Nat.le_of_dvd hb0 (Nat.gcd_dvd_right a b)
  have hn : ¬ lN (Nat.gcd a b) = 0 := fun z => absurd ((pk_lEQ (b := 0) (by omega) (by decide)).mp z) (by omega)
  unfold f_X7_part
  refine Eq.trans (p_b1 (i_gcd7 ha hb)) ?_
  by_cases c : p = 0
  · rw [if_pos (show nI p = 0 by rw [c]; rfl), if_pos c, if_neg hn, pk_lDiv ha hg0 (by omega)]
  · rw [if_neg (show ¬ nI p = 0 from fun z => c ((nI_eq (b := 0) (by omega) (by decide)).mp z)), if_neg c, if_neg hn, pk_lDiv (by omega) hg0 (by omega)]
end IPT
