/-! set, point, back; the beginning. -/
theorem p_zI {r wn pl : Nat → Int32} {tr tc : Int64} {mr : Nat → Int32} {pd : Int32} {mp ta : Nat → Int32} {fs : Int32} {a b P G S h k n : Nat} {bits : Nat → Nat} (h0 : tr = tc) (h1 : s_ok a b P G S h k) (h2 : s_rules r a b P G S h k) (h3 : s_rules mr a b P G S h k) (h4 : n ≤ 400) (h5 : pd = nI n) (h6 : ∀ j, j < n → bits j ≤ 1 ∧ mp j = nI (bits j) ∧ wn j = nI (1 - bits j)) (h7 : ∀ j, j < n → s_live S (s_play P G h k bits j)) (h8 : pl = s_pl n (s_play P G h k bits n)) (h9 : s_ta S h n ta fs (s_play P G h k bits n)) : z_I r wn pl tr tc mr pd mp ta fs :=
  ⟨h0, a, b, P, G, S, h, k, n, bits, h1, h2, h3, h4, h5, h6, h7, h8, h9⟩
/-- the reference's replays, by the rules as a whole -/
theorem p_rep (th : Int32) (tc : Int64) (mr : Nat → Int32) (pd : Int32) (mp : Nat → Int32) (ch la : Nat → Int64) (be : Int64) (se : Nat → Int64) (ta : Nat → Int32) (fs : Int32) {a b P G S h k N : Nat} {bits : Nat → Nat} (hok : s_ok a b P G S h k) (hm : s_rules mr a b P G S h k) (hpd : pd = nI N) (hN : N ≤ 400) (hb : ∀ j, j < N → bits j ≤ 1 ∧ mp j = nI (bits j)) (hl : ∀ j, j < N → s_live S (s_play P G h k bits j)) :
    ∃ (ta' : Nat → Int32) (fs' : Int32), f_X7_replays th tc mr pd mp ch la be se ta fs = some (ta', fs') ∧ s_ta S h N ta' fs' (s_play P G h k bits N) := by
  obtain ⟨m0, m1, m2, m3, m4, m5, m6⟩ := hm
  obtain ⟨o1, o2, o3, o4, o5, o6, o7, o8, o9, o10, o11, o12⟩ := hok
  exact p_replays th tc mr pd mp ch la be se ta fs m2 m3 m4 m5 m6 o5 o6 o7 o8 o9 o10 o12 (by omega) hpd hN hb hl
theorem z_born : ∃ R : (Nat → Int32) × Int32, f_X7_replays 0 0 (upd (upd (upd (upd (upd (fun _ => 0) 0 6) 1 4) 2 4) 3 6) 4 2) 0 (fun _ => 0) (fun _ => 0) (fun _ => 0) 0 (fun _ => 0) (fun _ => 0) 0 = some R ∧ z_I (mk7 6 4 4 6 2 0 0) (fun _ => 0) (mk13 0 0 0 0 0 0 0 0 0 0 0 0 0) 0 0 (upd (upd (upd (upd (upd (fun _ => 0) 0 6) 1 4) 2 4) 3 6) 4 2) 0 (fun _ => 0) R.1 R.2 := by
  have hok : s_ok 6 4 4 6 2 0 0 := by unfold s_ok; omega
  have hm : s_rules (upd (upd (upd (upd (upd (fun _ => 0) 0 6) 1 4) 2 4) 3 6) 4 2) 6 4 4 6 2 0 0 := ⟨rfl, rfl, rfl, rfl, rfl, rfl, rfl⟩
  obtain ⟨ta', fs', e1, e2⟩ := p_rep 0 0 _ 0 (fun _ => 0) (fun _ => 0) (fun _ => 0) 0 (fun _ => 0) (fun _ => 0) 0 (N := 0) (bits := fun _ => 0) hok hm rfl (by omega) (fun j hj => absurd hj (Nat.not_lt_zero j)) (fun j hj => absurd hj (Nat.not_lt_zero j))
  exact ⟨(ta', fs'), e1, p_zI (n := 0) (bits := fun _ => 0) rfl hok ⟨rfl, rfl, rfl, rfl, rfl, rfl, rfl⟩ hm (by omega) rfl (fun j hj => absurd hj (Nat.not_lt_zero j)) (fun j hj => absurd hj (Nat.not_lt_zero j)) rfl e2⟩
section PMV
variable (r : Nat → Int32) (to : Int32) (un : Int64) (fc fl bg bs : Nat → Int64) (wn pl : Nat → Int32) (tr : Int64) (th : Int32) (tc : Int64) (mr : Nat → Int32) (pd : Int32) (mp : Nat → Int32) (ch la : Nat → Int64) (be : Int64) (se : Nat → Int64) (ta : Nat → Int32) (fs : Int32)
theorem z_point (x1 : Int32) (h : z_I r wn pl tr tc mr pd mp ta fs) : ∃ (v : Int32) (wn' : (Nat → Int32)) (pl' : (Nat → Int32)) (th' : Int32) (pd' : Int32) (mp' : (Nat → Int32)) (ta' : (Nat → Int32)) (fs' : Int32), f_X6_point x1 r to un fc fl bg bs wn pl tr = some (v, wn', pl') ∧ f_X7_point x1 th tc mr pd mp ch la be se ta fs = some (v, th', pd', mp', ta', fs') ∧ z_I r wn' pl' tr tc mr pd' mp' ta' fs' := by
  obtain ⟨htr, a, b, P, G, S, hh, k, n, bits, hok, hr, hm, hn, hpd, hb, hl, hpl, hta⟩ := id h
  have hr0 := hr
  obtain ⟨r0, r1, r2, r3, r4, r5, r6⟩ := hr
  have hok0 := hok
  obtain ⟨o1, o2, o3, o4, o5, o6, o7, o8, o9, o10, o11, o12⟩ := hok
  rcases p_isEither x1 with ⟨h6, h7⟩ | ⟨w, hw, e, h6, h7⟩
  · refine ⟨-1, wn, pl, 0, pd, mp, ta, fs, ?_, ?_, h⟩
    · unfold f_X6_point
      exact p_b1 h6
    · unfold f_X7_point
      exact p_b1 h7
  have hend := p_endOK (P := P) (G := G) (h := hh) (k := k) (bits := bits) o9 n (fun i hi => (hb i hi).1) hl
  have hwf := p_wf (P := P) (h := hh) (k := k) (bits := bits) o7 o8 o10 n (fun i hi => (hb i hi).1) hl
  have hmw : f_X4_matchWinner r wn pl = some (ta 12) := by
    rw [hpl]
    generalize s_play P G hh k bits n = z at hta hend ⊢
    obtain ⟨p, q, x, y, u, v, aw, al, bw, bl, f, sv⟩ := z
    rw [hta.2.2.2.2.2.2.2.2.2.2.2.2.1]
    exact p_mw r wn r4 o10 hend
  have hp12 : pl 12 = nI n := by rw [hpl]; rfl
  have hA : f_X6_point x1 r to un fc fl bg bs wn pl tr = (if ta 12 = -9 then (if pl 12 < 400 then q_b2 (f_X4_tell x1 r wn pl) (fun wn8 pl9 => some (pl9 12, wn8, pl9)) else some (-3, wn, pl)) else some (-2, wn, pl)) := by
    unfold f_X6_point
    refine Eq.trans (p_b1 h6) ?_
    rw [if_neg (show ¬ (1 : Int32) = 0 by decide)]
    exact p_b1 hmw
  have hB : f_X7_point x1 th tc mr pd mp ch la be se ta fs = (if ta 12 = -9 then (if pd = 400 then some (-3, 0, pd, mp, ta, fs) else (if pd < 0 ∨ 400 ≤ Int32.toNatClampNeg pd then none else q_b2 (f_X7_replays 0 tc mr (pd + 1) (upd mp (Int32.toNatClampNeg pd) x1) ch la be se ta fs) (fun ta7 fs8 => some (pd + 1, 0, pd + 1, upd mp (Int32.toNatClampNeg pd) x1, ta7, fs8)))) else some (-2, 0, pd, mp, ta, fs)) := by
    unfold f_X7_point
    refine Eq.trans (p_b1 h7) ?_
    rw [if_neg (show ¬ (1 : Int32) = 0 by decide)]
  rw [hA, hB]
  by_cases c1 : ta 12 = -9
  · rw [if_pos c1, if_pos c1]
    by_cases c2 : n = 400
    · rw [if_neg (show ¬ pl 12 < 400 by rw [hp12, c2]; decide), if_pos (show pd = 400 by rw [hpd, c2]; rfl)]
      exact ⟨-3, wn, pl, 0, pd, mp, ta, fs, rfl, rfl, h⟩
    · rw [if_pos (show pl 12 < 400 by rw [hp12]; exact nI_lt (show n < 400 by omega) (by decide)), if_neg (show ¬ pd = 400 from by rw [hpd]; exact fun z => c2 ((nI_eq (b := 400) (by omega) (by decide)).mp z)), if_neg (show ¬ (pd < 0 ∨ 400 ≤ Int32.toNatClampNeg pd) from by rw [hpd]; exact p_gd (by omega) (by decide))]
      have hcl : Int32.toNatClampNeg pd = n := by rw [hpd]; exact p_cl (by omega)
      rw [hcl]
      -- the new point among the others
      have hlive : s_live S (s_play P G hh k bits n) := by
        generalize s_play P G hh k bits n = z at hta hend ⊢
        obtain ⟨p, q, x, y, u, v, aw, al, bw, bl, f, sv⟩ := z
        have t12 := hta.2.2.2.2.2.2.2.2.2.2.2.2.1
        obtain ⟨e1, e2, e3⟩ := hend
        rw [c1] at t12
        have n1 : ¬ u = S := fun z => by rw [if_pos z] at t12; revert t12; decide
        have n2 : ¬ v = S := fun z => by rw [if_neg n1, if_pos z] at t12; revert t12; decide
        exact ⟨by omega, by omega⟩
      have hbn : ∀ j, j < n → bits j = (fun i => if i = n then w else bits i) j := fun j hj => by
        show bits j = if j = n then w else bits j
        rw [if_neg (by omega)]
      have hpc : ∀ j, j ≤ n → s_play P G hh k (fun i => if i = n then w else bits i) j = s_play P G hh k bits j := fun j hj => (p_cong j (fun i hi => hbn i (by omega))).symm
      have hb2 : ∀ j, j < n + 1 → (fun i => if i = n then w else bits i) j ≤ 1 ∧ upd mp n x1 j = nI ((fun i => if i = n then w else bits i) j) ∧ upd wn n (nI (1 - w)) j = nI (1 - (fun i => if i = n then w else bits i) j) := by
        intro j hj
        show (if j = n then w else bits j) ≤ 1 ∧ upd mp n x1 j = nI (if j = n then w else bits j) ∧ upd wn n (nI (1 - w)) j = nI (1 - if j = n then w else bits j)
        by_cases ej : j = n
        · rw [if_pos ej, ej, pk_us, pk_us]
          exact ⟨hw, e, rfl⟩
        · rw [if_neg ej, pk_un ej, pk_un ej]
          exact hb j (by omega)
      have hl2 : ∀ j, j < n + 1 → s_live S (s_play P G hh k (fun i => if i = n then w else bits i) j) := by
        intro j hj
        rw [hpc j (by omega)]
        by_cases ej : j = n
        · rw [ej]; exact hlive
        · exact hl j (by omega)
      have hpd1 : pd + 1 = nI (n + 1) := by rw [hpd, nI_1]
      have hstep : s_play P G hh k (fun i => if i = n then w else bits i) (n + 1) = s_step P G hh k w (s_play P G hh k bits n) := by
        show s_step P G hh k (if n = n then w else bits n) (s_play P G hh k (fun i => if i = n then w else bits i) n) = _
        rw [if_pos rfl, hpc n (Nat.le_refl n)]
      obtain ⟨ta', fs', e1, e2⟩ := p_rep 0 tc mr (pd + 1) (upd mp n x1) ch la be se ta fs (N := n + 1) (bits := fun i => if i = n then w else bits i) hok0 hm hpd1 (by omega) (fun j hj => ⟨(hb2 j hj).1, (hb2 j hj).2.1⟩) hl2
      have ht : f_X4_tell x1 r wn pl = some (upd wn n (nI (1 - w)), s_pl (n + 1) (s_step P G hh k w (s_play P G hh k bits n))) := by
        rw [e, hpl]
        exact p_tell r wn r2 r3 r5 r6 o5 o6 o7 o8 o12 (by omega) hw (by omega) hwf
      refine ⟨nI (n + 1), upd wn n (nI (1 - w)), s_pl (n + 1) (s_step P G hh k w (s_play P G hh k bits n)), 0, pd + 1, upd mp n x1, ta', fs', ?_, ?_, ?_⟩
      · exact p_b2 ht
      · refine Eq.trans (p_b2 e1) ?_
        rw [hpd1]
      · exact p_zI (n := n + 1) (bits := fun i => if i = n then w else bits i) htr hok0 hr0 hm (by omega) hpd1 hb2 hl2 (by rw [hstep]) e2
  · rw [if_neg c1, if_neg c1]
    exact ⟨-2, wn, pl, 0, pd, mp, ta, fs, rfl, rfl, h⟩
theorem z_back (x1 : Int32) (h : z_I r wn pl tr tc mr pd mp ta fs) : ∃ (v : Int32) (wn' : (Nat → Int32)) (pl' : (Nat → Int32)) (th' : Int32) (pd' : Int32) (ta' : (Nat → Int32)) (fs' : Int32), f_X6_back x1 r to un fc fl bg bs wn pl tr = some (v, wn', pl') ∧ f_X7_back x1 th tc mr pd mp ch la be se ta fs = some (v, th', pd', ta', fs') ∧ z_I r wn' pl' tr tc mr pd' mp ta' fs' := by
  obtain ⟨htr, a, b, P, G, S, hh, k, n, bits, hok, hr, hm, hn, hpd, hb, hl, hpl, hta⟩ := id h
  have hr0 := hr
  obtain ⟨r0, r1, r2, r3, r4, r5, r6⟩ := hr
  have hok0 := hok
  obtain ⟨o1, o2, o3, o4, o5, o6, o7, o8, o9, o10, o11, o12⟩ := hok
  rcases p_within x1 (a := 1) (n := 400) (by decide) (by decide) with ⟨h6, h7⟩ | ⟨m, hm1, hm4, e, h6, h7⟩
  · refine ⟨-1, wn, pl, 0, pd, ta, fs, ?_, ?_, h⟩
    · unfold f_X6_back
      exact p_b1 (show f_X6_within x1 1 400 = some 0 from h6)
    · unfold f_X7_back
      exact p_b1 (show f_X7_in x1 1 400 = some 0 from h7)
  have hp12 : pl 12 = nI n := by rw [hpl]; rfl
  -- how many are kept
  have hkept : (if 0 < pl 12 - x1 then pl 12 - x1 else 0) = nI (n - m) := by
    rw [hp12, e]
    have e1 : (nI n - nI m).toInt = (n : Int) - m := pk_sub_toInt (by omega) (by omega)
    have e0 : (0 : Int32).toInt = 0 := rfl
    by_cases c : m < n
    · rw [if_pos (Int32.lt_iff_toInt_lt.mpr (show (0 : Int32).toInt < (nI n - nI m).toInt by rw [e1, e0]; omega)), pk_sub (by omega)]
    · rw [if_neg (show ¬ 0 < nI n - nI m from fun q => by have := Int32.lt_iff_toInt_lt.mp q; rw [e1, e0] at this; omega), show n - m = 0 by omega]
      rfl
  obtain ⟨wn', e1, e2⟩ := p_again r (K := n - m) (n0 := n) (bits := bits) r2 r3 r5 r6 o5 o6 o7 o8 o10 o12 (by omega) (by omega) (fun j hj => (hb j (by omega)).1) (fun j hj => hl j (by omega)) (n - m) 1000 0 wn (by omega) (by omega) (fun i hi => (hb i (by omega)).2.2)
  have hA : f_X6_back x1 r to un fc fl bg bs wn pl tr = some (nI n - nI (n - m), wn', s_pl (n - m) (s_play P G hh k bits (n - m))) := by
    unfold f_X6_back
    refine Eq.trans (p_b1 (show f_X6_within x1 1 400 = some 1 from h6)) ?_
    rw [if_neg (show ¬ (1 : Int32) = 0 by decide)]
    suffices ht : f_X4_takeBack x1 r wn pl = some (nI n - nI (n - m), wn', s_pl (n - m) (s_play P G hh k bits (n - m))) from p_b3 ht
    unfold f_X4_takeBack
    refine Eq.trans (p_b1 (show f_X4_restart r wn pl = some (s_pl 0 (s_play P G hh k bits 0)) from rfl)) ?_
    rw [hkept, hp12]
    refine Eq.trans (p_b3 (show l_X4_takeBack_20 (nI n) (nI (n - m)) r 1000 (0, wn, _) = _ from e1)) ?_
    rfl
  -- what the reference takes away
  have hdone : ∀ d : Nat, d = (if n ≤ m then n else m) → nI d = nI n - nI (n - m) ∧ pd - nI d = nI (n - m) := by
    intro d hd
    by_cases c : n ≤ m
    · rw [if_pos c] at hd
      rw [hd, show n - m = 0 by omega, hpd, pk_sub (Nat.zero_le n), pk_sub (Nat.le_refl n), Nat.sub_self, Nat.sub_zero]
      exact ⟨rfl, rfl⟩
    · rw [if_neg c] at hd
      rw [hd, hpd, pk_sub (show m ≤ n by omega), pk_sub (show n - m ≤ n by omega), show n - (n - m) = m by omega]
      exact ⟨rfl, rfl⟩
  obtain ⟨d1, d2⟩ := hdone _ rfl
  obtain ⟨ta', fs', e3, e4⟩ := p_rep 0 tc mr (pd - nI (if n ≤ m then n else m)) mp ch la be se ta fs (N := n - m) (bits := bits) hok0 hm d2 (by omega) (fun j hj => ⟨(hb j (by omega)).1, (hb j (by omega)).2.1⟩) (fun j hj => hl j (by omega))
  have hB : f_X7_back x1 th tc mr pd mp ch la be se ta fs = some (nI (if n ≤ m then n else m), 0, pd - nI (if n ≤ m then n else m), ta', fs') := by
    unfold f_X7_back
    refine Eq.trans (p_b1 (show f_X7_in x1 1 400 = some 1 from h7)) ?_
    rw [if_neg (show ¬ (1 : Int32) = 0 by decide)]
    have h34 : b_X7_back_34 (nI (if n ≤ m then n else m)) 0 tc mr pd mp ch la be se ta fs = some (nI (if n ≤ m then n else m), 0, pd - nI (if n ≤ m then n else m), ta', fs') := by
      unfold b_X7_back_34
      exact p_b2 e3
    by_cases c : n ≤ m
    · rw [if_pos (show pd ≤ x1 by rw [hpd, e]; exact nI_le c (by omega)), ← h34, if_pos c, hpd]
    · rw [if_neg (show ¬ pd ≤ x1 by rw [hpd, e]; exact nI_ge (by omega) (by omega)), ← h34, if_neg c, e]
  refine ⟨nI n - nI (n - m), wn', s_pl (n - m) (s_play P G hh k bits (n - m)), 0, pd - nI (if n ≤ m then n else m), ta', fs', hA, ?_, p_zI (n := n - m) (bits := bits) htr hok0 hr0 hm (by omega) d2 (fun j hj => ⟨(hb j (by omega)).1, (hb j (by omega)).2.1, e2 j hj⟩) (fun j hj => hl j (by omega)) rfl e4⟩
  rw [hB, d1]
end PMV
