/-! heaviest: both rows of weights are gone through side by side -/
/-- the most so far: 0 none yet, v + 1 the value v -/
def m_m (m : Nat) : Int64 := if m = 0 then -1 else lN (m - 1)
theorem m_cmp {a m : Nat} (ha : a < 2 ^ 63) (hm : m ≤ 2 ^ 63) : lg_cmp (lN a) (m_m m) ≤ 0 ↔ a + 1 ≤ m := by
  refine (lg_cmp_le _ _).trans ?_
  unfold m_m
  by_cases c : m = 0
  · rw [if_pos c]
    constructor
    · intro z
      have z1 := Int64.le_iff_toInt_le.mp z
      rw [pk_lT ha, show (-1 : Int64).toInt = -1 from by decide] at z1
      omega
    · intro z
      omega
  · rw [if_neg c]
    refine (pk_lLE ha (show m - 1 < 2 ^ 63 by omega)).trans ?_
    omega
def m_rel (B K mc mr : Nat) : Prop := mc ≤ 2 ^ 60 ∧ mr ≤ 2 ^ 60 ∧ ((mc = 0 ∧ mr = 0) ∨ (0 < mc ∧ 0 < mr ∧ (mc - 1) * B = (mr - 1) * K))
theorem m_iff {E W B K mc mr : Nat} (hB : 0 < B) (hK : 0 < K) (h : E * B = W * K) (hr : m_rel B K mc mr) : E + 1 ≤ mc ↔ W + 1 ≤ mr := by
  obtain ⟨-, -, ⟨h1, h2⟩ | ⟨h1, h2, h3⟩⟩ := hr
  · omega
  · constructor
    · intro z
      have a1 : E * B ≤ (mc - 1) * B := Nat.mul_le_mul_right _ (by omega)
      rw [h, h3] at a1
      have a2 := Nat.le_of_mul_le_mul_right a1 hK
      omega
    · intro z
      have a1 : W * K ≤ (mr - 1) * K := Nat.mul_le_mul_right _ (by omega)
      rw [← h, ← h3] at a1
      have a2 := Nat.le_of_mul_le_mul_right a1 hB
      omega
theorem m_E {w P k i j d : Nat} (hw : w < 10) (hP1 : 1 ≤ P) (hP5 : P ≤ 5) (hi : i < P) (hj : j < P) (hd : i + j + d + 1 = 2 * P) (c0 : s_won P k i j = 0) : (g_V w (g_U w k) P k 0 d (i + 1) j - g_V w (g_U w k) P k 0 d i (j + 1)) * 10 ^ (i + j) * h_B w = (h_V w P k 0 (d + 2) (i + 1) j - h_V w P k 0 (d + 2) i (j + 1)) * (g_U w k * 10 ^ (2 * P - 1)) ∧ (g_V w (g_U w k) P k 0 d (i + 1) j - g_V w (g_U w k) P k 0 d i (j + 1)) * 10 ^ (i + j) < 2 ^ 50 ∧ h_V w P k 0 (d + 2) (i + 1) j - h_V w P k 0 (d + 2) i (j + 1) < 2 ^ 50 := by
  obtain ⟨v1, v2, v3⟩ := j_w hw hP1 hP5 hd (Or.inr (Or.inl hi)) c0
  obtain ⟨u1, u2, u3⟩ := i_Up w k hw
  obtain ⟨B1, B2, B3⟩ := i_Bp w hw
  have hp : 10 ^ (2 * P - 1) = 10 ^ d * 10 ^ (i + j) := by rw [← Nat.pow_add, show d + (i + j) = 2 * P - 1 by omega]
  refine ⟨?_, ?_, ?_⟩
  · rw [Nat.mul_right_comm, v3, hp, Nat.mul_assoc, Nat.mul_assoc (g_U w k)]
  · have h1 := i_CU (k := k) hw hP1 hP5 (show (i + 1) + j + d = 2 * P by omega) (by omega)
    have h2 : (g_V w (g_U w k) P k 0 d (i + 1) j - g_V w (g_U w k) P k 0 d i (j + 1)) * 10 ^ (i + j) ≤ (g_U w k * 10 ^ d) * 10 ^ (i + j) := Nat.mul_le_mul_right _ (by omega)
    rw [Nat.mul_assoc, ← hp] at h2
    have h4 : 10 ^ (2 * P - 1) ≤ 10 ^ 9 := Nat.pow_le_pow_right (by decide) (by omega)
    have h5 : g_U w k * 10 ^ (2 * P - 1) ≤ 181 * 10 ^ 9 := Nat.mul_le_mul u2 h4
    have h6 : (181 : Nat) * 10 ^ 9 < 2 ^ 50 := by decide
    omega
  · have h1 := i_RB (P := P) (k := k) hw (d + 2) (i + 1) j
    omega
section MH
variable (r : Nat → Int32) (fc fl : Nat → Int64) (th : Int32) (tc : Int64) (mr : Nat → Int32) (pd : Int32) (mp : Nat → Int32) (ch la : Nat → Int64) (be : Int64) (se : Nat → Int64) (ta : Nat → Int32) (fs : Int32)
theorem m_c (KK : (Int32 × Int64 × Int32) → Option (Int32 × Int64 × Int32)) {w P k i j d q best m : Nat} (hw : w < 10) (hP : r 2 = nI P) (h6 : r 6 = nI k) (hP1 : 1 ≤ P) (hP5 : P ≤ 5) (hk : k ≤ 2) (hi : i < P) (hj : j < P) (hd : i + j + d + 1 = 2 * P) (hq : q ≤ 1) (hm : m ≤ 2 ^ 60) (hI : g_In w (g_U w k) P k 0 0 fc fl) : b_X0_heaviestScore_21 KK (nI q) (nI best) (m_m m) (nI i) (nI j) r (nI P) (lN (g_U w k)) fc fl = if s_won P k i j = 0 ∧ ¬ (g_V w (g_U w k) P k 0 d (i + 1) j - g_V w (g_U w k) P k 0 d i (j + 1)) * 10 ^ (i + j) + 1 ≤ m then KK (nI (if q = 0 then i else j), m_m ((g_V w (g_U w k) P k 0 d (i + 1) j - g_V w (g_U w k) P k 0 d i (j + 1)) * 10 ^ (i + j) + 1), nI (j + 1)) else KK (nI best, m_m m, nI (j + 1)) := by
  have hw2 := g_won2 P k i j
  unfold b_X0_heaviestScore_21 b_X0_heaviestScore_75 b_X0_heaviestScore_103 b_X0_heaviestScore_104
  rw [if_neg (nI_ge hj (by omega))]
  refine Eq.trans (p_b1 (l_wAt r fc fl hP5 hd (by omega) (by omega) hI _ _)) ?_
  rw [nI_add]
  refine Eq.trans (p_b1 (g_tens (show i + j ≤ 10 by omega))) ?_
  refine Eq.trans (p_b1 (show f_X5_gameWinner (r 6) (nI i) (nI j) r = some (nI (s_won P k i j)) from by rw [h6]; exact p_gw r hP hP1 hP5 hk (by omega) (by omega))) ?_
  rw [nI_1]
  by_cases c0 : s_won P k i j = 0
  · obtain ⟨v1, v2, v3⟩ := j_w hw hP1 hP5 hd (Or.inr (Or.inl hi)) c0
    obtain ⟨x1, x2, x3⟩ := m_E hw hP1 hP5 hi hj hd c0
    have hc := m_cmp (a := (g_V w (g_U w k) P k 0 d (i + 1) j - g_V w (g_U w k) P k 0 d i (j + 1)) * 10 ^ (i + j)) (m := m) (by omega) (by omega)
    rw [if_pos (show nI (s_won P k i j) = 0 by rw [c0]; rfl), if_neg (show ¬ (1 : Int32) = 0 by decide), lN_sub v1, lN_mul]
    by_cases c1 : (g_V w (g_U w k) P k 0 d (i + 1) j - g_V w (g_U w k) P k 0 d i (j + 1)) * 10 ^ (i + j) + 1 ≤ m
    · rw [if_pos (hc.mpr c1), if_neg (fun z => z.2 c1)]
    · have hx : s_won P k i j = 0 ∧ ¬ (g_V w (g_U w k) P k 0 d (i + 1) j - g_V w (g_U w k) P k 0 d i (j + 1)) * 10 ^ (i + j) + 1 ≤ m := ⟨c0, c1⟩
      rw [if_neg (fun z => c1 (hc.mp z)), if_pos hx]
      by_cases cq : q = 0
      · rw [if_pos (show nI q = 0 by rw [cq]; rfl), if_pos cq]
        rfl
      · rw [if_neg (show ¬ nI q = 0 from fun z => cq ((nI_eq (b := 0) (by omega) (by decide)).mp z)), if_neg cq]
        rfl
  · rw [if_neg (show ¬ nI (s_won P k i j) = 0 from fun z => c0 ((nI_eq (b := 0) (by omega) (by decide)).mp z)), if_pos (show (0 : Int32) = 0 from rfl), if_neg (fun z => c0 z.1)]
theorem m_r (KK : (Int64 × Int32 × Int32) → Option (Int64 × Int32 × Int32)) {w P k i j d m : Nat} (x2 x5 : Int32) (hw : w < 10) (m2 : mr 2 = nI P) (m6 : mr 6 = nI k) (hP1 : 1 ≤ P) (hP5 : P ≤ 5) (hk : k ≤ 2) (hi : i < P) (hj : j < P) (hd : i + j + d + 1 = 2 * P) (hm : m ≤ 2 ^ 60) (hI : h_In w P k 0 (P + 2) ch la) : b_X7_heaviest_54 KK x2 (m_m m) x5 (nI i) (nI j) th tc mr pd mp ch la be se ta fs = if s_won P k i j = 0 ∧ ¬ (h_V w P k 0 (d + 2) (i + 1) j - h_V w P k 0 (d + 2) i (j + 1)) + 1 ≤ m then KK (m_m (h_V w P k 0 (d + 2) (i + 1) j - h_V w P k 0 (d + 2) i (j + 1) + 1), nI (7 * i + j), nI (j + 1)) else KK (m_m m, x5, nI (j + 1)) := by
  have hw2 := g_won2 P k i j
  have hv1 := (hI (i + 1) j (by omega) (by omega) (by omega) (by omega)).1
  have hv2 := (hI i (j + 1) (by omega) (by omega) (by omega) (by omega)).1
  rw [show 2 * P + 2 - (i + 1) - j = d + 2 by omega] at hv1
  rw [show 2 * P + 2 - i - (j + 1) = d + 2 by omega] at hv2
  unfold b_X7_heaviest_54 b_X7_heaviest_137
  rw [m2, if_neg (nI_ge hj (by omega)), show (7 : Int32) * nI i + 7 + nI j = nI (7 * (i + 1) + j) from by rw [show (7 : Int32) * nI i = nI (7 * i) from pk_mul 7 i, show nI (7 * i) + 7 = nI (7 * i + 7) from nI_add _ 7, nI_add, show 7 * (i + 1) = 7 * i + 7 by omega], j_ix, nI_1, nI_1, show 7 * i + j + 1 = 7 * i + (j + 1) by omega, if_neg (p_gd (show 7 * (i + 1) + j < 49 by omega) (by decide)), if_neg (p_gd (show 7 * i + (j + 1) < 49 by omega) (by decide)), p_cl (show 7 * (i + 1) + j < 2 ^ 31 by omega), p_cl (show 7 * i + (j + 1) < 2 ^ 31 by omega), hv1, hv2]
  refine Eq.trans (p_b1 (show f_X7_wonOf (mr 6) (nI i) (nI j) th tc mr pd mp ch la be se ta fs = some (nI (s_won P k i j)) from by rw [m6]; exact p_wo th tc mr pd mp ch la be se ta fs m2 hP1 hP5 hk (by omega) (by omega))) ?_
  by_cases c0 : s_won P k i j = 0
  · obtain ⟨v1, v2, v3⟩ := j_w hw hP1 hP5 hd (Or.inr (Or.inl hi)) c0
    obtain ⟨x1, x2, x3⟩ := m_E hw hP1 hP5 hi hj hd c0
    have hc := m_cmp (a := h_V w P k 0 (d + 2) (i + 1) j - h_V w P k 0 (d + 2) i (j + 1)) (m := m) (by omega) (by omega)
    rw [if_pos (show nI (s_won P k i j) = 0 by rw [c0]; rfl), lN_sub v2]
    by_cases c1 : (h_V w P k 0 (d + 2) (i + 1) j - h_V w P k 0 (d + 2) i (j + 1)) + 1 ≤ m
    · rw [if_pos (hc.mpr c1), if_neg (fun z => z.2 c1)]
    · rw [if_neg (fun z => c1 (hc.mp z)), if_pos ⟨c0, c1⟩]
      rfl
  · rw [if_neg (show ¬ nI (s_won P k i j) = 0 from fun z => c0 ((nI_eq (b := 0) (by omega) (by decide)).mp z)), if_neg (fun z => c0 z.1)]
theorem m_inner {w P k i q : Nat} (hw : w < 10) (r2 : r 2 = nI P) (r6 : r 6 = nI k) (m2 : mr 2 = nI P) (m6 : mr 6 = nI k) (hP1 : 1 ≤ P) (hP5 : P ≤ 5) (hk : k ≤ 2) (hq : q ≤ 1) (hi : i < P) (hI : g_In w (g_U w k) P k 0 0 fc fl) (hJ : h_In w P k 0 (P + 2) ch la) : ∀ (m F j bi bj c e : Nat), j + m = P → m < F → bi ≤ 4 → bj ≤ 4 → m_rel (h_B w) (g_U w k * 10 ^ (2 * P - 1)) c e → ∃ (bi' bj' c' e' : Nat) (y y' : Int32), bi' ≤ 4 ∧ bj' ≤ 4 ∧ m_rel (h_B w) (g_U w k * 10 ^ (2 * P - 1)) c' e' ∧ l_X0_heaviestScore_21 (nI q) (nI i) r (nI P) (lN (g_U w k)) fc fl F (nI (if q = 0 then bi else bj), m_m c, nI j) = some (nI (if q = 0 then bi' else bj'), m_m c', y) ∧ l_X7_heaviest_54 (nI q) (nI i) th tc mr pd mp ch la be se ta fs F (m_m e, nI (7 * bi + bj), nI j) = some (m_m e', nI (7 * bi' + bj'), y') := by
  intro m
  induction m with
  | zero =>
    intro F j bi bj c e hj hF h1 h2 hr
    obtain ⟨F, rfl⟩ : ∃ F', F = F' + 1 := ⟨F - 1, by omega⟩
    refine ⟨bi, bj, c, e, nI j, nI j, h1, h2, hr, ?_, ?_⟩
    · show b_X0_heaviestScore_21 (l_X0_heaviestScore_21 (nI q) (nI i) r (nI P) (lN (g_U w k)) fc fl F) (nI q) (nI (if q = 0 then bi else bj)) (m_m c) (nI i) (nI j) r (nI P) (lN (g_U w k)) fc fl = _
      unfold b_X0_heaviestScore_21
      rw [if_pos (nI_le (show P ≤ j by omega) (by omega))]
    · show b_X7_heaviest_54 (l_X7_heaviest_54 (nI q) (nI i) th tc mr pd mp ch la be se ta fs F) (nI q) (m_m e) (nI (7 * bi + bj)) (nI i) (nI j) th tc mr pd mp ch la be se ta fs = _
      unfold b_X7_heaviest_54
      rw [m2, if_pos (nI_le (show P ≤ j by omega) (by omega))]
  | succ m ih =>
    intro F j bi bj c e hj hF h1 h2 hr
    obtain ⟨F, rfl⟩ : ∃ F', F = F' + 1 := ⟨F - 1, by omega⟩
    obtain ⟨d, hd⟩ : ∃ d, i + j + d + 1 = 2 * P := ⟨2 * P - 1 - i - j, by omega⟩
    have ec := m_c r fc fl (l_X0_heaviestScore_21 (nI q) (nI i) r (nI P) (lN (g_U w k)) fc fl F) (best := if q = 0 then bi else bj) hw r2 r6 hP1 hP5 hk hi (show j < P by omega) hd hq hr.1 hI
    have er := m_r th tc mr pd mp ch la be se ta fs (l_X7_heaviest_54 (nI q) (nI i) th tc mr pd mp ch la be se ta fs F) (nI q) (nI (7 * bi + bj)) hw m2 m6 hP1 hP5 hk hi (show j < P by omega) hd hr.2.1 hJ
    have hK : 0 < g_U w k * 10 ^ (2 * P - 1) := Nat.mul_pos (i_Up w k hw).1 (Nat.pow_pos (by decide))
    by_cases c0 : s_won P k i j = 0
    · obtain ⟨x1, x2, x3⟩ := m_E hw hP1 hP5 hi (show j < P by omega) hd c0
      have hif := m_iff (i_Bp w hw).1 hK x1 hr
      by_cases c1 : (g_V w (g_U w k) P k 0 d (i + 1) j - g_V w (g_U w k) P k 0 d i (j + 1)) * 10 ^ (i + j) + 1 ≤ c
      · rw [if_neg (show ¬ (s_won P k i j = 0 ∧ ¬ (g_V w (g_U w k) P k 0 d (i + 1) j - g_V w (g_U w k) P k 0 d i (j + 1)) * 10 ^ (i + j) + 1 ≤ c) from fun z => z.2 c1)] at ec
        rw [if_neg (show ¬ (s_won P k i j = 0 ∧ ¬ h_V w P k 0 (d + 2) (i + 1) j - h_V w P k 0 (d + 2) i (j + 1) + 1 ≤ e) from fun z => z.2 (hif.mp c1))] at er
        obtain ⟨bi', bj', c', e', y, y', a1, a2, a3, a4, a5⟩ := ih F (j + 1) bi bj c e (by omega) (by omega) h1 h2 hr
        exact ⟨bi', bj', c', e', y, y', a1, a2, a3, Eq.trans ec a4, Eq.trans er a5⟩
      · rw [if_pos (show s_won P k i j = 0 ∧ ¬ (g_V w (g_U w k) P k 0 d (i + 1) j - g_V w (g_U w k) P k 0 d i (j + 1)) * 10 ^ (i + j) + 1 ≤ c from ⟨c0, c1⟩)] at ec
        rw [if_pos (show s_won P k i j = 0 ∧ ¬ h_V w P k 0 (d + 2) (i + 1) j - h_V w P k 0 (d + 2) i (j + 1) + 1 ≤ e from ⟨c0, fun z => c1 (hif.mpr z)⟩)] at er
        obtain ⟨bi', bj', c', e', y, y', a1, a2, a3, a4, a5⟩ := ih F (j + 1) i j _ _ (by omega) (by omega) (by omega) (by omega) ⟨show (g_V w (g_U w k) P k 0 d (i + 1) j - g_V w (g_U w k) P k 0 d i (j + 1)) * 10 ^ (i + j) + 1 ≤ 2 ^ 60 by omega, show h_V w P k 0 (d + 2) (i + 1) j - h_V w P k 0 (d + 2) i (j + 1) + 1 ≤ 2 ^ 60 by omega, Or.inr ⟨by omega, by omega, by rw [Nat.add_sub_cancel, Nat.add_sub_cancel]; exact x1⟩⟩
        exact ⟨bi', bj', c', e', y, y', a1, a2, a3, Eq.trans ec a4, Eq.trans er a5⟩
    · rw [if_neg (show ¬ (s_won P k i j = 0 ∧ ¬ (g_V w (g_U w k) P k 0 d (i + 1) j - g_V w (g_U w k) P k 0 d i (j + 1)) * 10 ^ (i + j) + 1 ≤ c) from fun z => c0 z.1)] at ec
      rw [if_neg (show ¬ (s_won P k i j = 0 ∧ ¬ h_V w P k 0 (d + 2) (i + 1) j - h_V w P k 0 (d + 2) i (j + 1) + 1 ≤ e) from fun z => c0 z.1)] at er
      obtain ⟨bi', bj', c', e', y, y', a1, a2, a3, a4, a5⟩ := ih F (j + 1) bi bj c e (by omega) (by omega) h1 h2 hr
      exact ⟨bi', bj', c', e', y, y', a1, a2, a3, Eq.trans ec a4, Eq.trans er a5⟩
theorem m_outer {w P k q : Nat} (hw : w < 10) (r2 : r 2 = nI P) (r6 : r 6 = nI k) (m2 : mr 2 = nI P) (m6 : mr 6 = nI k) (hP1 : 1 ≤ P) (hP5 : P ≤ 5) (hk : k ≤ 2) (hq : q ≤ 1) (hI : g_In w (g_U w k) P k 0 0 fc fl) (hJ : h_In w P k 0 (P + 2) ch la) : ∀ (m F i bi bj c e : Nat), i + m = P → m < F → bi ≤ 4 → bj ≤ 4 → m_rel (h_B w) (g_U w k * 10 ^ (2 * P - 1)) c e → ∃ (bi' bj' c' e' : Nat) (y y' : Int32), bi' ≤ 4 ∧ bj' ≤ 4 ∧ m_rel (h_B w) (g_U w k * 10 ^ (2 * P - 1)) c' e' ∧ l_X0_heaviestScore_9 (nI q) r (nI P) (lN (g_U w k)) fc fl F (nI (if q = 0 then bi else bj), m_m c, nI i) = some (nI (if q = 0 then bi' else bj'), m_m c', y) ∧ l_X7_heaviest_40 (nI q) th tc mr pd mp ch la be se ta fs F (m_m e, nI (7 * bi + bj), nI i) = some (m_m e', nI (7 * bi' + bj'), y') := by
  intro m
  induction m with
  | zero =>
    intro F i bi bj c e hj hF h1 h2 hr
    obtain ⟨F, rfl⟩ : ∃ F', F = F' + 1 := ⟨F - 1, by omega⟩
    refine ⟨bi, bj, c, e, nI i, nI i, h1, h2, hr, ?_, ?_⟩
    · show b_X0_heaviestScore_9 (l_X0_heaviestScore_9 (nI q) r (nI P) (lN (g_U w k)) fc fl F) (nI q) (nI (if q = 0 then bi else bj)) (m_m c) (nI i) r (nI P) (lN (g_U w k)) fc fl = _
      unfold b_X0_heaviestScore_9
      rw [if_pos (nI_le (show P ≤ i by omega) (by omega))]
    · show b_X7_heaviest_40 (l_X7_heaviest_40 (nI q) th tc mr pd mp ch la be se ta fs F) (nI q) (m_m e) (nI (7 * bi + bj)) (nI i) th tc mr pd mp ch la be se ta fs = _
      unfold b_X7_heaviest_40
      rw [m2, if_pos (nI_le (show P ≤ i by omega) (by omega))]
  | succ m ih =>
    intro F i bi bj c e hj hF h1 h2 hr
    obtain ⟨F, rfl⟩ : ∃ F', F = F' + 1 := ⟨F - 1, by omega⟩
    obtain ⟨bi1, bj1, c1, e1, y1, y1', a1, a2, a3, a4, a5⟩ := m_inner r fc fl th tc mr pd mp ch la be se ta fs hw r2 r6 m2 m6 hP1 hP5 hk hq (show i < P by omega) hI hJ P 1000 0 bi bj c e (by omega) (by omega) h1 h2 hr
    obtain ⟨bi', bj', c', e', y, y', b1, b2, b3, b4, b5⟩ := ih F (i + 1) bi1 bj1 c1 e1 (by omega) (by omega) a1 a2 a3
    refine ⟨bi', bj', c', e', y, y', b1, b2, b3, ?_, ?_⟩
    · show b_X0_heaviestScore_9 (l_X0_heaviestScore_9 (nI q) r (nI P) (lN (g_U w k)) fc fl F) (nI q) (nI (if q = 0 then bi else bj)) (m_m c) (nI i) r (nI P) (lN (g_U w k)) fc fl = _
      unfold b_X0_heaviestScore_9
      rw [if_neg (nI_ge (show i < P by omega) (by omega))]
      refine Eq.trans (p_b3 a4) ?_
      rw [nI_1]
      exact b4
    · show b_X7_heaviest_40 (l_X7_heaviest_40 (nI q) th tc mr pd mp ch la be se ta fs F) (nI q) (m_m e) (nI (7 * bi + bj)) (nI i) th tc mr pd mp ch la be se ta fs = _
      unfold b_X7_heaviest_40
      rw [m2, if_neg (nI_ge (show i < P by omega) (by omega))]
      refine Eq.trans (p_b3 a5) ?_
      rw [nI_1]
      exact b5
end MH
section MZ
variable (r : Nat → Int32) (to : Int32) (un : Int64) (fc fl bg bs : Nat → Int64) (wn pl : Nat → Int32) (tr : Int64) (th : Int32) (tc : Int64) (mr : Nat → Int32) (pd : Int32) (mp : Nat → Int32) (ch la : Nat → Int64) (be : Int64) (se : Nat → Int64) (ta : Nat → Int32) (fs : Int32)
theorem z_heaviest (x1 x2 : Int32) (h : z_I r wn pl tr tc mr pd mp ta fs) : ∃ (v : Int32) (to' : Int32) (un' : Int64) (fc' : (Nat → Int64)) (fl' : (Nat → Int64)) (th' : Int32) (ch' : (Nat → Int64)) (la' : (Nat → Int64)) (be' : Int64), f_X6_heaviest x1 x2 r to un fc fl bg bs wn pl tr = some (v, to', un', fc', fl') ∧ f_X7_heaviest x1 x2 th tc mr pd mp ch la be se ta fs = some (v, th', ch', la', be') ∧ z_I r wn pl tr tc mr pd mp ta fs := by
  obtain ⟨htr, a, b, P, G, S, hh, k, n, bits, hok, hr, hm, hn, hpd, hb, hl, hpl, hta⟩ := id h
  obtain ⟨r0, r1, r2, r3, r4, r5, r6⟩ := hr
  obtain ⟨m0, m1, m2, m3, m4, m5, m6⟩ := hm
  obtain ⟨o1, o2, o3, o4, o5, o6, o7, o8, o9, o10, o11, o12⟩ := hok
  have n10 : ¬ (1 : Int32) = 0 := by decide
  rcases p_isEither x1 with ⟨i6, i7⟩ | ⟨sv, hsv, e1, i6, i7⟩
  · refine ⟨-1, to, un, fc, fl, 0, ch, la, be, ?_, ?_, h⟩
    · unfold f_X6_heaviest
      exact p_b1 i6
    · unfold f_X7_heaviest
      exact p_b1 i7
  rcases p_isEither x2 with ⟨k6, k7⟩ | ⟨q, hq, e2, k6, k7⟩
  · refine ⟨-1, to, un, fc, fl, 0, ch, la, be, ?_, ?_, h⟩
    · unfold f_X6_heaviest
      refine Eq.trans (p_b1 i6) ?_
      rw [if_neg n10]
      exact p_b1 k6
    · unfold f_X7_heaviest
      refine Eq.trans (p_b1 i7) ?_
      rw [if_neg n10]
      exact p_b1 k7
  obtain ⟨w, hw, q1, q2⟩ := j_sv r mr o1 o2 o3 o4 r0 r1 m0 m1 hsv
  obtain ⟨fc', fl', g1, g2⟩ := g_reckon q1 r2 r6 (show w ≤ 9 by omega) o5 o6 o12 to un fc fl
  obtain ⟨ch', la', w1, w2⟩ := h_works 0 tc mr pd mp se ta fs hsv q2 m2 m6 (show w ≤ 9 by omega) o5 o6 o12 ch la be
  obtain ⟨bi, bj, c, e, y, y', a1, a2, a3, a4, a5⟩ := m_outer r fc' fl' 0 tc mr pd mp ch' la' (lN (h_B w)) se ta fs hw r2 r6 m2 m6 o5 o6 o12 hq g2 w2 P 1000 0 0 0 0 0 (by omega) (by omega) (by omega) (by omega) ⟨by omega, by omega, Or.inl ⟨rfl, rfl⟩⟩
  have ez : nI (if q = 0 then 0 else 0) = 0 := by
    rw [ite_self]
    rfl
  rw [ez] at a4
  refine ⟨nI (if q = 0 then bi else bj), nI P, lN (g_U w k), fc', fl', 0, ch', la', lN (h_B w), ?_, ?_, h⟩
  · unfold f_X6_heaviest
    refine Eq.trans (p_b1 i6) ?_
    rw [if_neg n10]
    refine Eq.trans (p_b1 k6) ?_
    rw [if_neg n10, e1, e2]
    refine Eq.trans (p_b4 g1) ?_
    refine p_b1 (a := nI (if q = 0 then bi else bj)) ?_
    unfold f_X0_heaviestScore
    exact p_b3 a4
  · unfold f_X7_heaviest
    refine Eq.trans (p_b1 i7) ?_
    rw [if_neg n10]
    refine Eq.trans (p_b1 k7) ?_
    rw [if_neg n10, e1, e2]
    refine Eq.trans (p_b3 w1) ?_
    refine Eq.trans (p_b3 (show l_X7_heaviest_40 (nI q) 0 tc mr pd mp ch' la' (lN (h_B w)) se ta fs 1000 (-1, 0, 0) = _ from a5)) ?_
    have d1 : nI (7 * bi + bj) / 7 = nI bi := by
      rw [show nI (7 * bi + bj) / 7 = nI ((7 * bi + bj) / 7) from pk_div (d := 7) (by omega) (by decide) (by decide), show (7 * bi + bj) / 7 = bi by omega]
    have d2 : nI (7 * bi + bj) - nI (7 * bi + bj) / 7 * 7 = nI bj := by
      rw [show nI (7 * bi + bj) - nI (7 * bi + bj) / 7 * 7 = nI ((7 * bi + bj) % 7) from pk_rem (d := 7) (by omega) (by decide) (by decide), show (7 * bi + bj) % 7 = bj by omega]
    by_cases cq : q = 0
    · rw [if_pos (show nI q = 0 by rw [cq]; rfl), if_pos cq, d1]
    · rw [if_neg (show ¬ nI q = 0 from fun z => cq ((nI_eq (b := 0) (by omega) (by decide)).mp z)), if_neg cq, d2]
end MZ
