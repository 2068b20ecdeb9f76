/-! A point of the reference's replay; the replays whole. -/
section PREP
variable (th : Int32) (tc : Int64) (mr : Nat → Int32) (pd : Int32) (mp : Nat → Int32) (ch la : Nat → Int64) (be : Int64) (se : Nat → Int64)
set_option maxHeartbeats 4000000 in
theorem p_body (K : (Int32 × (Nat → Int32) × Int32) → Option (Int32 × (Nat → Int32) × Int32)) (ta : Nat → Int32) (fs : Int32) {P G S h k w j N : Nat} {z : s_S} (h2 : mr 2 = nI P) (h3 : mr 3 = nI G) (h4 : mr 4 = nI S) (h5 : mr 5 = nI h) (h6 : mr 6 = nI k) (hP1 : 1 ≤ P) (hP5 : P ≤ 5) (hG : 1 ≤ G) (hG6 : G ≤ 6) (hS : S ≤ 3) (hk : k ≤ 2) (hh : h ≤ 3) (hw : w ≤ 1) (hpd : pd = nI N) (hN : N ≤ 400) (hj : j < N) (hmp : mp j = nI w)
    (hz : s_wf G j z) (hl : s_live S z) (hta : s_ta S h j ta fs z) : ∃ (ta' : Nat → Int32) (fs' : Int32), b_X7_replays_41 K (nI j) th tc mr pd mp ch la be se ta fs = K (nI (j + 1), ta', fs') ∧ s_ta S h (j + 1) ta' fs' (s_step P G h k w z) := by
  obtain ⟨p, q, x, y, u, v, aw, al, bw, bl, f, sv⟩ := z
  obtain ⟨w1, w2, w3, w4, w5, w6, w7, w8, w9, w10, w11, w12, w13⟩ := hz
  obtain ⟨t0, t1, t2, t3, t4, t5, t6, t7, t8, t9, t10, t11, t12, tf⟩ := hta
  obtain ⟨l1, l2⟩ := hl
  rw [if_neg (show ¬ u = S by omega), if_neg (show ¬ v = S by omega)] at t12
  have hs : s_hs h sv ≤ 3 := by unfold s_hs; split <;> omega
  have hcj : Int32.toNatClampNeg (nI j) = j := p_cl (by omega)
  have hcw : Int32.toNatClampNeg (nI w) = w := p_cl (by omega)
  have hgw : ¬ (nI w < 0 ∨ 13 ≤ Int32.toNatClampNeg (nI w)) := p_gd (N := 13) (by omega) (by decide)
  rw [hcw] at hgw
  have hgj : ¬ (nI j < 0 ∨ 400 ≤ Int32.toNatClampNeg (nI j)) := p_gd (N := 400) (by omega) (by decide)
  rw [hcj] at hgj
  have hix : (8 : Int32) + 2 * nI sv + nI w = nI (8 + 2 * sv + w) := by
    rw [show (8 : Int32) = nI 8 from rfl, show (2 : Int32) = nI 2 from rfl, pk_mul, nI_add, nI_add]
  have hci : Int32.toNatClampNeg (nI (8 + 2 * sv + w)) = 8 + 2 * sv + w := p_cl (by omega)
  have hgi : ¬ (nI (8 + 2 * sv + w) < 0 ∨ 13 ≤ Int32.toNatClampNeg (nI (8 + 2 * sv + w))) := p_gd (N := 13) (by omega) (by decide)
  rw [hci] at hgi
  unfold b_X7_replays_41 b_X7_replays_135
  rw [if_neg (show ¬ pd ≤ nI j from by rw [hpd]; exact nI_ge hj (by omega))]
  simp only [hcj, hmp, hcw]
  rw [if_neg hgj, if_neg hgw, if_neg hgw]
  generalize hA : upd ta w (ta w + 1) = tA
  generalize hB : upd tA 7 (tA 7 + 1) = tB
  have hB6 : tB 6 = nI sv := by rw [← hB, pk_un (by omega), ← hA, pk_un (by omega), t6]
  rw [hB6, hix, hci, if_neg hgi, if_neg hgi]
  generalize hC : upd tB (8 + 2 * sv + w) (tB (8 + 2 * sv + w) + 1) = tC
  have c0 : tC 0 = nI (p + (1 - w) + s_hs h sv) := by
    rw [← hC, pk_un (by omega), ← hB, pk_un (by omega), ← hA]
    by_cases e : w = 0
    · rw [e, pk_us, t0, nI_1]; exact congrArg nI (by omega)
    · rw [pk_un (by omega), t0]; exact congrArg nI (by omega)
  have c1 : tC 1 = nI (q + w) := by
    rw [← hC, pk_un (by omega), ← hB, pk_un (by omega), ← hA]
    by_cases e : w = 0
    · rw [pk_un (by omega), t1, e]; rfl
    · rw [show w = 1 by omega, pk_us, t1, nI_1]
  have c2 : tC 2 = nI x := by rw [← hC, pk_un (by omega), ← hB, pk_un (by omega), ← hA, pk_un (by omega), t2]
  have c3 : tC 3 = nI y := by rw [← hC, pk_un (by omega), ← hB, pk_un (by omega), ← hA, pk_un (by omega), t3]
  have c4 : tC 4 = nI u := by rw [← hC, pk_un (by omega), ← hB, pk_un (by omega), ← hA, pk_un (by omega), t4]
  have c5 : tC 5 = nI v := by rw [← hC, pk_un (by omega), ← hB, pk_un (by omega), ← hA, pk_un (by omega), t5]
  have c6 : tC 6 = nI sv := by rw [← hC, pk_un (by omega), hB6]
  have c7 : tC 7 = nI (j + 1) := by rw [← hC, pk_un (by omega), ← hB, pk_us, ← hA, pk_un (by omega), t7, nI_1]
  have c12 : tC 12 = -9 := by rw [← hC, pk_un (by omega), ← hB, pk_un (by omega), ← hA, pk_un (by omega), t12]
  have b8 : tB 8 = nI aw := by rw [← hB, pk_un (by omega), ← hA, pk_un (by omega), t8]
  have b9 : tB 9 = nI al := by rw [← hB, pk_un (by omega), ← hA, pk_un (by omega), t9]
  have b10 : tB 10 = nI bw := by rw [← hB, pk_un (by omega), ← hA, pk_un (by omega), t10]
  have b11 : tB 11 = nI bl := by rw [← hB, pk_un (by omega), ← hA, pk_un (by omega), t11]
  have c8 : tC 8 = nI (if sv = 0 then aw + (1 - w) else aw) := by
    rw [← hC]
    by_cases e : sv = 0
    · by_cases e2 : w = 0
      · rw [e, e2, pk_us, b8, nI_1]; rfl
      · rw [pk_un (by omega), b8, if_pos e]; exact congrArg nI (by omega)
    · rw [pk_un (by omega), b8, if_neg e]
  have c9 : tC 9 = nI (if sv = 0 then al + w else al) := by
    rw [← hC]
    by_cases e : sv = 0
    · by_cases e2 : w = 0
      · rw [pk_un (by omega), b9, if_pos e, e2]; rfl
      · rw [e, show w = 1 by omega, pk_us, b9, nI_1]; rfl
    · rw [pk_un (by omega), b9, if_neg e]
  have c10 : tC 10 = nI (if sv = 0 then bw else bw + (1 - w)) := by
    rw [← hC]
    by_cases e : sv = 0
    · rw [pk_un (by omega), b10, if_pos e]
    · by_cases e2 : w = 0
      · rw [show sv = 1 by omega, e2, pk_us, b10, nI_1]; rfl
      · rw [pk_un (by omega), b10, if_neg e]; exact congrArg nI (by omega)
  have c11 : tC 11 = nI (if sv = 0 then bl else bl + w) := by
    rw [← hC]
    by_cases e : sv = 0
    · rw [pk_un (by omega), b11, if_pos e]
    · by_cases e2 : w = 0
      · rw [pk_un (by omega), b11, if_neg e, e2]; rfl
      · rw [show sv = 1 by omega, show w = 1 by omega, pk_us, b11, nI_1]; rfl
  have hwo : f_X7_wonOf (mr 6) (tC 0) (tC 1) th tc mr pd mp ch la be se tC fs = some (nI (s_won P k (p + (1 - w) + s_hs h sv) (q + w))) := by
    rw [h6, c0, c1]
    exact p_wo th tc mr pd mp ch la be se tC fs h2 hP1 hP5 hk (by omega) (by omega)
  rw [p_b1 hwo]
  have hlt := p_won2 P k (p + (1 - w) + s_hs h sv) (q + w)
  unfold s_step
  dsimp only
  by_cases e : s_won P k (p + (1 - w) + s_hs h sv) (q + w) = 0
  · rw [e, if_pos (show nI 0 ≤ 0 by decide), if_pos rfl]
    refine ⟨tC, fs, by rw [nI_1], c0, c1, c2, c3, c4, c5, c6, c7, c8, c9, c10, c11, ?_, tf⟩
    rw [c12, if_neg (show ¬ u = S by omega), if_neg (show ¬ v = S by omega)]
  · rw [if_neg (show ¬ nI (s_won P k (p + (1 - w) + s_hs h sv) (q + w)) ≤ 0 from nI_nle (by omega) (by omega)), if_neg e]
    rw [show nI (s_won P k (p + (1 - w) + s_hs h sv) (q + w)) - 1 = nI (s_won P k (p + (1 - w) + s_hs h sv) (q + w) - 1) from pk_sub (b := 1) (by omega), tf]
    obtain ⟨ta', fs', e1, e2⟩ := p_wins th tc mr pd mp ch la be se tC (G := G) (S := S) (h := h) (n := j + 1) (w := s_won P k (p + (1 - w) + s_hs h sv) (q + w) - 1) (p := p + (1 - w)) (q := q + w) (f := f) h3 h4 h5 hG hG6 (by omega) w3 w4 w5 w12 w13 l1 l2 hS c2 c3 c4 c5 c6 c7 c8 c9 c10 c11 c12
    rw [p_b2 e1]
    exact ⟨ta', fs', by rw [nI_1], e2⟩
/-- the points from the j-th on -/
theorem p_loop41 {P G S h k N : Nat} {bits : Nat → Nat} (h2 : mr 2 = nI P) (h3 : mr 3 = nI G) (h4 : mr 4 = nI S) (h5 : mr 5 = nI h) (h6 : mr 6 = nI k) (hP1 : 1 ≤ P) (hP5 : P ≤ 5) (hG : 1 ≤ G) (hG6 : G ≤ 6) (hS : S ≤ 3) (hk : k ≤ 2) (hh : h ≤ 3) (hpd : pd = nI N) (hN : N ≤ 400) (hb : ∀ j, j < N → bits j ≤ 1 ∧ mp j = nI (bits j)) (hl : ∀ j, j < N → s_live S (s_play P G h k bits j)) :
    ∀ (m F j : Nat) (ta : Nat → Int32) (fs : Int32), j + m = N → m < F → s_ta S h j ta fs (s_play P G h k bits j) → ∃ (ta' : Nat → Int32) (fs' : Int32), l_X7_replays_41 th tc mr pd mp ch la be se F (nI j, ta, fs) = some (nI N, ta', fs') ∧ s_ta S h N ta' fs' (s_play P G h k bits N) := by
  intro m
  induction m with
  | zero =>
    intro F j ta fs hj hF hta
    obtain ⟨F, rfl⟩ : ∃ F', F = F' + 1 := ⟨F - 1, by omega⟩
    have hj : j = N := by omega
    subst hj
    refine ⟨ta, fs, ?_, hta⟩
    show b_X7_replays_41 (l_X7_replays_41 th tc mr pd mp ch la be se F) (nI j) th tc mr pd mp ch la be se ta fs = _
    unfold b_X7_replays_41
    rw [if_pos (show pd ≤ nI j from by rw [hpd]; exact nI_le (Nat.le_refl j) (by omega))]
  | succ m ih =>
    intro F j ta fs hj hF hta
    obtain ⟨F, rfl⟩ : ∃ F', F = F' + 1 := ⟨F - 1, by omega⟩
    obtain ⟨ta', fs', e1, e2⟩ := p_body th tc mr pd mp ch la be se (l_X7_replays_41 th tc mr pd mp ch la be se F) ta fs h2 h3 h4 h5 h6 hP1 hP5 hG hG6 hS hk hh (hb j (by omega)).1 hpd hN (show j < N by omega) (hb j (by omega)).2 (p_wf hG hG6 hS j (fun i hi => (hb i (by omega)).1) (fun i hi => hl i (by omega))) (hl j (by omega)) hta
    obtain ⟨ta2, fs2, e3, e4⟩ := ih F (j + 1) ta' fs' (by omega) (by omega) e2
    exact ⟨ta2, fs2, Eq.trans e1 e3, e4⟩
theorem p_loop2 (fs : Int32) : ∀ (m F j : Nat) (ta : Nat → Int32), j + m = 12 → m < F → (∀ i, i < j → ta i = 0) → ∃ ta' : Nat → Int32, l_X7_replays_2 th tc mr pd mp ch la be se F (nI j, ta, fs) = some (nI 12, ta', fs) ∧ ∀ i, i < 12 → ta' i = 0 := by
  intro m
  induction m with
  | zero =>
    intro F j ta hj hF h
    obtain ⟨F, rfl⟩ : ∃ F', F = F' + 1 := ⟨F - 1, by omega⟩
    have hj : j = 12 := by omega
    subst hj
    exact ⟨ta, by
      show b_X7_replays_2 (l_X7_replays_2 th tc mr pd mp ch la be se F) (nI 12) th tc mr pd mp ch la be se ta fs = _
      unfold b_X7_replays_2
      rw [if_pos (show (12 : Int32) ≤ nI 12 by decide)], h⟩
  | succ m ih =>
    intro F j ta hj hF h
    obtain ⟨F, rfl⟩ : ∃ F', F = F' + 1 := ⟨F - 1, by omega⟩
    obtain ⟨ta', e1, e2⟩ := ih F (j + 1) (upd ta j 0) (by omega) (by omega) (fun i hi => by
      by_cases e : i = j
      · rw [e, pk_us]
      · rw [pk_un e]; exact h i (by omega))
    refine ⟨ta', ?_, e2⟩
    rw [← e1]
    show b_X7_replays_2 (l_X7_replays_2 th tc mr pd mp ch la be se F) (nI j) th tc mr pd mp ch la be se ta fs = _
    unfold b_X7_replays_2
    rw [if_neg (show ¬ (12 : Int32) ≤ nI j from nI_ge (show j < 12 by omega) (by decide)), if_neg (p_gd (N := 13) (by omega) (by decide)), p_cl (show j < 2 ^ 31 by omega), nI_1]
theorem p_replays (ta : Nat → Int32) (fs : Int32) {P G S h k N : Nat} {bits : Nat → Nat} (h2 : mr 2 = nI P) (h3 : mr 3 = nI G) (h4 : mr 4 = nI S) (h5 : mr 5 = nI h) (h6 : mr 6 = nI k) (hP1 : 1 ≤ P) (hP5 : P ≤ 5) (hG : 1 ≤ G) (hG6 : G ≤ 6) (hS1 : 1 ≤ S) (hS : S ≤ 3) (hk : k ≤ 2) (hh : h ≤ 3) (hpd : pd = nI N) (hN : N ≤ 400) (hb : ∀ j, j < N → bits j ≤ 1 ∧ mp j = nI (bits j)) (hl : ∀ j, j < N → s_live S (s_play P G h k bits j)) :
    ∃ (ta' : Nat → Int32) (fs' : Int32), f_X7_replays th tc mr pd mp ch la be se ta fs = some (ta', fs') ∧ s_ta S h N ta' fs' (s_play P G h k bits N) := by
  obtain ⟨t1, e1, z1⟩ := p_loop2 th tc mr pd mp ch la be se fs 12 1000 0 ta rfl (by omega) (fun i hi => absurd hi (Nat.not_lt_zero i))
  have e2 := p_begins th tc mr pd mp ch la be se (upd t1 12 (-9)) 0 (h := h) (sv := 0) h5 (show upd t1 12 (-9) 6 = nI 0 from z1 6 (by omega)) (by omega)
  have hs0 : s_ta S h 0 (upd (upd (upd t1 12 (-9)) 0 (nI (s_hs h 0))) 1 0) 0 (s_play P G h k bits 0) := by
    refine ⟨?_, rfl, z1 2 (by omega), z1 3 (by omega), z1 4 (by omega), z1 5 (by omega), z1 6 (by omega), z1 7 (by omega), z1 8 (by omega), z1 9 (by omega), z1 10 (by omega), z1 11 (by omega), ?_, rfl⟩
    · show nI (s_hs h 0) = nI (0 + s_hs h 0)
      rw [Nat.zero_add]
    · show (-9 : Int32) = _
      rw [if_neg (show ¬ 0 = S by omega), if_neg (show ¬ 0 = S by omega)]
  obtain ⟨t2, f2, e3, z3⟩ := p_loop41 th tc mr pd mp ch la be se h2 h3 h4 h5 h6 hP1 hP5 hG hG6 hS hk hh hpd hN hb hl N 1000 0 _ 0 (by omega) (by omega) hs0
  refine ⟨t2, f2, ?_, z3⟩
  unfold f_X7_replays
  refine Eq.trans (p_b3 (show l_X7_replays_2 th tc mr pd mp ch la be se 1000 (0, ta, fs) = _ from e1)) ?_
  refine Eq.trans (p_b1 e2) ?_
  exact p_b3 (show l_X7_replays_41 th tc mr pd mp ch la be se 1000 (0, _, 0) = _ from e3)
end PREP
/-- the class plays the kept points again -/
theorem p_again (r : Nat → Int32) {P G S h k K n0 : Nat} {bits : Nat → Nat} (h2 : r 2 = nI P) (h3 : r 3 = nI G) (h5 : r 5 = nI h) (h6 : r 6 = nI k) (hP1 : 1 ≤ P) (hP5 : P ≤ 5) (hG : 1 ≤ G) (hG6 : G ≤ 6) (hS : S ≤ 3) (hk : k ≤ 2) (hh : h ≤ 3) (hK : K ≤ 400) (hb : ∀ j, j < K → bits j ≤ 1) (hl : ∀ j, j < K → s_live S (s_play P G h k bits j)) :
    ∀ (m F j : Nat) (wn : Nat → Int32), j + m = K → m < F → (∀ i, i < K → wn i = nI (1 - bits i)) → ∃ wn' : Nat → Int32, l_X4_takeBack_20 (nI n0) (nI K) r F (nI j, wn, s_pl j (s_play P G h k bits j)) = some (nI K, wn', s_pl K (s_play P G h k bits K)) ∧ ∀ i, i < K → wn' i = nI (1 - bits i) := by
  intro m
  induction m with
  | zero =>
    intro F j wn hj hF hw
    obtain ⟨F, rfl⟩ : ∃ F', F = F' + 1 := ⟨F - 1, by omega⟩
    have hj : j = K := by omega
    subst hj
    refine ⟨wn, ?_, hw⟩
    show b_X4_takeBack_20 (l_X4_takeBack_20 (nI n0) (nI j) r F) (nI n0) (nI j) (nI j) r wn _ = _
    unfold b_X4_takeBack_20
    rw [if_pos (nI_le (Nat.le_refl j) (by omega))]
  | succ m ih =>
    intro F j wn hj hF hw
    obtain ⟨F, rfl⟩ : ∃ F', F = F' + 1 := ⟨F - 1, by omega⟩
    have hbj := hb j (by omega)
    have ht := p_tell r wn (w := bits j) (n := j) h2 h3 h5 h6 hP1 hP5 hG hG6 hk hh hbj (by omega) (p_wf hG hG6 hS j (fun i hi => hb i (by omega)) (fun i hi => hl i (by omega)))
    obtain ⟨wn', e1, e2⟩ := ih F (j + 1) (upd wn j (nI (1 - bits j))) (by omega) (by omega) (fun i hi => by
      by_cases e : i = j
      · rw [e, pk_us]
      · rw [pk_un e]; exact hw i hi)
    refine ⟨wn', ?_, e2⟩
    rw [← e1]
    show b_X4_takeBack_20 (l_X4_takeBack_20 (nI n0) (nI K) r F) (nI n0) (nI K) (nI j) r wn _ = _
    unfold b_X4_takeBack_20 b_X4_takeBack_52
    rw [if_neg (show ¬ nI K ≤ nI j from nI_ge (by omega) (by omega)), if_neg (show ¬ (400 : Int32) ≤ nI j from nI_ge (show j < 400 by omega) (by decide)), if_neg (p_gd (N := 400) (by omega) (by decide)), p_cl (show j < 2 ^ 31 by omega), hw j (by omega)]
    rcases (show bits j = 0 ∨ bits j = 1 by omega) with e | e
    · rw [if_neg (show ¬ nI (1 - bits j) = 0 by rw [e]; decide)]
      refine Eq.trans (p_b2 (show f_X4_tell 0 r wn _ = some (upd wn j (nI (1 - bits j)), s_pl (j + 1) (s_step P G h k (bits j) (s_play P G h k bits j))) from by rw [show (0 : Int32) = nI (bits j) by rw [e]; rfl]; exact ht)) ?_
      rw [nI_1]
      rfl
    · rw [if_pos (show nI (1 - bits j) = 0 by rw [e]; rfl)]
      refine Eq.trans (p_b2 (show f_X4_tell 1 r wn _ = some (upd wn j (nI (1 - bits j)), s_pl (j + 1) (s_step P G h k (bits j) (s_play P G h k bits j))) from by rw [show (1 : Int32) = nI (bits j) by rw [e]; rfl]; exact ht)) ?_
      rw [nI_1]
      rfl
