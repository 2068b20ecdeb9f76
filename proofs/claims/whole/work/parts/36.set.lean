/-! set -/
section PST
variable (r : Nat → Int32) (to : Int32) (un : Int64) (fc fl bg bs : Nat → Int64) (wn pl : Nat → Int32) (tr : Int64) (th : Int32) (tc : Int64) (mr : Nat → Int32) (pd : Int32) (mp : Nat → Int32) (ch la : Nat → Int64) (be : Int64) (se : Nat → Int64) (ta : Nat → Int32) (fs : Int32)
theorem p_set54 {i : Nat} (hi : i ≤ 6) (x2 : Int32) {ta' : Nat → Int32} {fs' : Int32} (hrep : f_X7_replays 0 tc (upd (upd mr i x2) 5 (if i = 2 then 0 else upd mr i x2 5)) pd mp ch la be se ta fs = some (ta', fs')) :
    b_X7_set_54 (nI i) x2 0 tc mr pd mp ch la be se ta fs = some (mr i, 0, upd (upd mr i x2) 5 (if i = 2 then 0 else upd mr i x2 5), ta', fs') := by
  have hg := p_gd (n := i) (N := 7) (by omega) (by decide)
  have hc : Int32.toNatClampNeg (nI i) = i := p_cl (by omega)
  have hg5 : ¬ ((5 : Int32) < 0 ∨ 7 ≤ Int32.toNatClampNeg 5) := by decide
  have hc5 : Int32.toNatClampNeg 5 = 5 := by decide
  unfold b_X7_set_54 b_X7_set_88
  rw [if_neg hg, if_neg hg, hc]
  by_cases e : i = 2
  · rw [if_pos (show nI i = 2 by rw [e]; rfl), if_neg hg5, hc5]
    rw [if_pos e] at hrep ⊢
    exact p_b2 hrep
  · rw [if_neg (show ¬ nI i = 2 from fun z => e ((nI_eq (b := 2) (by omega) (by decide)).mp z)), if_neg hg5, hc5]
    rw [if_neg e] at hrep ⊢
    exact p_b2 hrep
theorem p_setAll {a b P G S h k n i lo hi : Nat} {bits : Nat → Nat} (htr : tr = tc) (hok : s_ok a b P G S h k) (hr : s_rules r a b P G S h k) (hm : s_rules mr a b P G S h k) (hn : n ≤ 400) (hpd : pd = nI n) (hb : ∀ j, j < n → bits j ≤ 1 ∧ mp j = nI (bits j) ∧ wn j = nI (1 - bits j)) (hl : ∀ j, j < n → s_live S (s_play P G h k bits j)) (hpl : pl = s_pl n (s_play P G h k bits n)) (hta : s_ta S h n ta fs (s_play P G h k bits n))
    (x2 : Int32) (hi6 : i ≤ 6) (hlo : lo = if 5 ≤ i then 0 else 1) (hhi : hi < 1000)
    (hA0 : f_X5_allows (nI i) x2 r = q_b1 (f_X6_within x2 (nI lo) (nI hi)) (fun z => some z)) (hB0 : ∀ th' : Int32, f_X7_most (nI i) th' tc mr pd mp ch la be se ta fs = some (nI hi)) (hT : f_X5_told (nI i) r = some (mr i))
    (hv : ∀ v, lo ≤ v → v ≤ hi → x2 = nI v → ∃ (a' b' P' G' S' h' k' : Nat) (r' : Nat → Int32), s_ok a' b' P' G' S' h' k' ∧ f_X5_tell (nI i) x2 r = some r' ∧ s_rules r' a' b' P' G' S' h' k' ∧ s_rules (upd (upd mr i x2) 5 (if i = 2 then 0 else upd mr i x2 5)) a' b' P' G' S' h' k' ∧ (i ≤ 1 → P' = P ∧ G' = G ∧ S' = S ∧ h' = h ∧ k' = k)) :
    ∃ (v : Int32) (r' : (Nat → Int32)) (th' : Int32) (mr' : (Nat → Int32)) (ta' : (Nat → Int32)) (fs' : Int32), f_X6_set (nI i) x2 r to un fc fl bg bs wn pl tr = some (v, r') ∧ f_X7_set (nI i) x2 th tc mr pd mp ch la be se ta fs = some (v, th', mr', ta', fs') ∧ z_I r' wn pl tr tc mr' pd mp ta' fs' := by
  have hz : z_I r wn pl tr tc mr pd mp ta fs := p_zI htr hok hr hm hn hpd hb hl hpl hta
  have hin : f_X7_in (nI i) 0 6 = some 1 := by
    unfold f_X7_in
    rw [if_neg (show ¬ nI i < 0 from nI_pos (by omega)), if_neg (show ¬ (6 : Int32) < nI i from nI_nlt (a := 6) hi6 (by decide))]
  have hB : f_X7_set (nI i) x2 th tc mr pd mp ch la be se ta fs = b_X7_set_26 (nI i) x2 (nI lo) x2 0 tc mr pd mp ch la be se ta fs := by
    unfold f_X7_set
    refine Eq.trans (p_b1 hin) ?_
    rw [if_neg (show ¬ (1 : Int32) = 0 by decide)]
    by_cases c : 5 ≤ i
    · rw [if_pos (show (5 : Int32) ≤ nI i from nI_le c (by omega)), hlo, if_pos c]
      rfl
    · rw [if_neg (show ¬ (5 : Int32) ≤ nI i from nI_ge (show i < 5 by omega) (by decide)), hlo, if_neg c]
      rfl
  rw [hB]
  have hlo1 : lo ≤ 1 := by rw [hlo]; split <;> omega
  rcases p_within x2 (a := lo) (n := hi) (by omega) (by omega) with ⟨h6, h7⟩ | ⟨v, hv1, hv2, e, h6, h7⟩
  · refine ⟨-1, r, 0, mr, ta, fs, ?_, ?_, hz⟩
    · unfold f_X6_set
      exact p_b1 (Eq.trans hA0 (p_b1 h6))
    · unfold b_X7_set_26
      refine Eq.trans (p_b1 (hB0 0)) ?_
      exact p_b1 h7
  obtain ⟨a', b', P', G', S', h', k', r', hok', htell, hr', hm', hsame⟩ := hv v hv1 hv2 e
  have hA : f_X6_set (nI i) x2 r to un fc fl bg bs wn pl tr = (if i ≤ 1 then b_X6_set_46 (nI i) x2 r to un fc fl bg bs wn pl tr else if pl 12 ≤ 0 then b_X6_set_46 (nI i) x2 r to un fc fl bg bs wn pl tr else some (-2, r)) := by
    unfold f_X6_set b_X6_set_23 b_X6_set_28
    refine Eq.trans (p_b1 (Eq.trans hA0 (p_b1 h6))) ?_
    rw [if_neg (show ¬ (1 : Int32) = 0 by decide), if_neg (show ¬ (1 : Int32) = 0 by decide), if_pos (show (0 : Int32) = 0 from rfl)]
    by_cases c0 : i = 0
    · rw [if_pos (show nI i = 0 by rw [c0]; rfl), if_pos (by omega)]
    · rw [if_neg (show ¬ nI i = 0 from fun z => c0 ((nI_eq (b := 0) (by omega) (by decide)).mp z))]
      by_cases c1 : i = 1
      · rw [if_pos (show nI i = 1 by rw [c1]; rfl), if_pos (by omega)]
      · rw [if_neg (show ¬ nI i = 1 from fun z => c1 ((nI_eq (b := 1) (by omega) (by decide)).mp z)), if_neg (show ¬ i ≤ 1 by omega)]
  have h46 : b_X6_set_46 (nI i) x2 r to un fc fl bg bs wn pl tr = some (mr i, r') := by
    unfold b_X6_set_46
    refine Eq.trans (p_b1 hT) ?_
    exact p_b1 htell
  have hB2 : b_X7_set_26 (nI i) x2 (nI lo) x2 0 tc mr pd mp ch la be se ta fs = (if i ≤ 1 then b_X7_set_54 (nI i) x2 0 tc mr pd mp ch la be se ta fs else if pd ≤ 0 then b_X7_set_54 (nI i) x2 0 tc mr pd mp ch la be se ta fs else some (-2, 0, mr, ta, fs)) := by
    unfold b_X7_set_26
    refine Eq.trans (p_b1 (hB0 0)) ?_
    refine Eq.trans (p_b1 h7) ?_
    rw [if_neg (show ¬ (1 : Int32) = 0 by decide)]
    by_cases c : i ≤ 1
    · rw [if_pos (show nI i ≤ 1 from nI_le c (by decide)), if_pos c]
    · rw [if_neg (show ¬ nI i ≤ 1 from nI_ge (show 1 < i by omega) (by omega)), if_neg c]
  rw [hA, hB2, h46]
  have hp12 : pl 12 = nI n := by rw [hpl]; rfl
  by_cases c : i ≤ 1
  · rw [if_pos c, if_pos c]
    obtain ⟨e1, e2, e3, e4, e5⟩ := hsame c
    subst e1; subst e2; subst e3; subst e4; subst e5
    obtain ⟨ta', fs', q1, q2⟩ := p_rep 0 tc _ pd mp ch la be se ta fs hok' hm' hpd hn (fun j hj => ⟨(hb j hj).1, (hb j hj).2.1⟩) hl
    exact ⟨mr i, r', 0, _, ta', fs', rfl, p_set54 tc mr pd mp ch la be se ta fs hi6 x2 q1, p_zI htr hok' hr' hm' hn hpd hb hl hpl q2⟩
  · rw [if_neg c, if_neg c]
    by_cases c0 : n = 0
    · subst c0
      rw [if_pos (show pl 12 ≤ 0 by rw [hp12]; decide), if_pos (show pd ≤ 0 by rw [hpd]; decide)]
      have hno : ∀ {X : Nat → Prop} (j : Nat), j < 0 → X j := fun j hj => absurd hj (Nat.not_lt_zero j)
      obtain ⟨ta', fs', q1, q2⟩ := p_rep 0 tc _ pd mp ch la be se ta fs (bits := bits) hok' hm' hpd (by omega) (fun j hj => absurd hj (Nat.not_lt_zero j)) (fun j hj => absurd hj (Nat.not_lt_zero j))
      exact ⟨mr i, r', 0, _, ta', fs', rfl, p_set54 tc mr pd mp ch la be se ta fs hi6 x2 q1, p_zI (n := 0) (bits := bits) htr hok' hr' hm' (by omega) hpd (fun j hj => absurd hj (Nat.not_lt_zero j)) (fun j hj => absurd hj (Nat.not_lt_zero j)) hpl q2⟩
    · rw [if_neg (show ¬ pl 12 ≤ 0 by rw [hp12]; exact nI_nle (by omega) (by omega)), if_neg (show ¬ pd ≤ 0 by rw [hpd]; exact nI_nle (by omega) (by omega))]
      exact ⟨-2, r, 0, mr, ta, fs, rfl, rfl, hz⟩
theorem z_set (x1 x2 : Int32) (h : z_I r wn pl tr tc mr pd mp ta fs) : ∃ (v : Int32) (r' : (Nat → Int32)) (th' : Int32) (mr' : (Nat → Int32)) (ta' : (Nat → Int32)) (fs' : Int32), f_X6_set x1 x2 r to un fc fl bg bs wn pl tr = some (v, r') ∧ f_X7_set x1 x2 th tc mr pd mp ch la be se ta fs = some (v, th', mr', ta', fs') ∧ z_I r' wn pl tr tc mr' pd mp ta' fs' := by
  obtain ⟨htr, a, b, P, G, S, hh, k, n, bits, hok, hr, hm, hn, hpd, hb, hl, hpl, hta⟩ := id h
  have hr0 := hr
  have hm0 := hm
  have hok0 := hok
  obtain ⟨r0, r1, r2, r3, r4, r5, r6⟩ := hr
  obtain ⟨m0, m1, m2, m3, m4, m5, m6⟩ := hm
  obtain ⟨o1, o2, o3, o4, o5, o6, o7, o8, o9, o10, o11, o12⟩ := hok
  rcases p_within x1 (a := 0) (n := 6) (by decide) (by decide) with ⟨-, hi⟩ | ⟨i, -, hi, e, -, -⟩
  · refine ⟨-1, r, 0, mr, ta, fs, ?_, ?_, h⟩
    · unfold f_X6_set
      refine p_b1 (a := 0) ?_
      unfold f_X5_allows
      rw [if_neg (p_ne hi 0 (by decide)), if_neg (p_ne hi 1 (by decide)), if_neg (p_ne hi 2 (by decide)), if_neg (p_ne hi 3 (by decide)), if_neg (p_ne hi 4 (by decide)), if_neg (p_ne hi 5 (by decide)), if_neg (p_ne hi 6 (by decide))]
    · unfold f_X7_set
      exact p_b1 (show f_X7_in x1 0 6 = some 0 from hi)
  subst e
  have go := @p_setAll r to un fc fl bg bs wn pl tr th tc mr pd mp ch la be se ta fs a b P G S hh k n i
  rcases (show i = 0 ∨ i = 1 ∨ i = 2 ∨ i = 3 ∨ i = 4 ∨ i = 5 ∨ i = 6 by omega) with rfl | rfl | rfl | rfl | rfl | rfl | rfl
  · exact go (lo := 1) (hi := 9) (bits := bits) htr hok0 hr0 hm0 hn hpd hb hl hpl hta x2 (by omega) rfl (by omega) rfl (fun _ => rfl) (by rw [m0, ← r0]; rfl) (fun v h1 h2 e => ⟨v, b, P, G, S, hh, k, _, ⟨h1, h2, o3, o4, o5, o6, o7, o8, o9, o10, o11, o12⟩, rfl, ⟨e, r1, r2, r3, r4, r5, r6⟩, ⟨e, m1, m2, m3, m4, m5, m6⟩, fun _ => ⟨rfl, rfl, rfl, rfl, rfl⟩⟩)
  · exact go (lo := 1) (hi := 9) (bits := bits) htr hok0 hr0 hm0 hn hpd hb hl hpl hta x2 (by omega) rfl (by omega) rfl (fun _ => rfl) (by rw [m1, ← r1]; rfl) (fun v h1 h2 e => ⟨a, v, P, G, S, hh, k, _, ⟨o1, o2, h1, h2, o5, o6, o7, o8, o9, o10, o11, o12⟩, rfl, ⟨r0, e, r2, r3, r4, r5, r6⟩, ⟨m0, e, m2, m3, m4, m5, m6⟩, fun _ => ⟨rfl, rfl, rfl, rfl, rfl⟩⟩)
  · exact go (lo := 1) (hi := 5) (bits := bits) htr hok0 hr0 hm0 hn hpd hb hl hpl hta x2 (by omega) rfl (by omega) rfl (fun _ => rfl) (by rw [m2, ← r2]; rfl) (fun v h1 h2 e => ⟨a, b, v, G, S, 0, k, _, ⟨o1, o2, o3, o4, h1, h2, o7, o8, o9, o10, Nat.zero_le _, o12⟩, rfl, ⟨r0, r1, e, r3, r4, rfl, r6⟩, ⟨m0, m1, e, m3, m4, rfl, m6⟩, fun c => absurd c (by decide)⟩)
  · exact go (lo := 1) (hi := 6) (bits := bits) htr hok0 hr0 hm0 hn hpd hb hl hpl hta x2 (by omega) rfl (by omega) rfl (fun _ => rfl) (by rw [m3, ← r3]; rfl) (fun v h1 h2 e => ⟨a, b, P, v, S, hh, k, _, ⟨o1, o2, o3, o4, o5, o6, h1, h2, o9, o10, o11, o12⟩, rfl, ⟨r0, r1, r2, e, r4, r5, r6⟩, ⟨m0, m1, m2, e, m4, m5, m6⟩, fun c => absurd c (by decide)⟩)
  · exact go (lo := 1) (hi := 3) (bits := bits) htr hok0 hr0 hm0 hn hpd hb hl hpl hta x2 (by omega) rfl (by omega) rfl (fun _ => rfl) (by rw [m4, ← r4]; rfl) (fun v h1 h2 e => ⟨a, b, P, G, v, hh, k, _, ⟨o1, o2, o3, o4, o5, o6, o7, o8, h1, h2, o11, o12⟩, rfl, ⟨r0, r1, r2, r3, e, r5, r6⟩, ⟨m0, m1, m2, m3, e, m5, m6⟩, fun c => absurd c (by decide)⟩)
  · have hP2 : (nI P - 2).toInt = (P : Int) - 2 := pk_sub_toInt (b := 2) (by omega) (by omega)
    have e0 : (0 : Int32).toInt = 0 := rfl
    refine go (lo := 0) (hi := (P - 2)) (bits := bits) htr hok0 hr0 hm0 hn hpd hb hl hpl hta x2 (by omega) rfl (by omega) ?_ (fun _ => ?_) (by rw [m5, ← r5]; rfl) (fun v h1 h2 e => ⟨a, b, P, G, S, v, k, _, ⟨o1, o2, o3, o4, o5, o6, o7, o8, o9, o10, h2, o12⟩, rfl, ⟨r0, r1, r2, r3, r4, e, r6⟩, ⟨m0, m1, m2, m3, m4, e, m6⟩, fun c => absurd c (by decide)⟩)
    · have e1 : (if 0 < r 2 - 2 then r 2 - 2 else 0) = nI (P - 2) := by
        rw [r2]
        by_cases c : 2 < P
        · rw [if_pos (Int32.lt_iff_toInt_lt.mpr (show (0 : Int32).toInt < (nI P - 2).toInt by rw [hP2, e0]; omega))]
          exact pk_sub (b := 2) (by omega)
        · rw [if_neg (show ¬ 0 < nI P - 2 from fun q => by have := Int32.lt_iff_toInt_lt.mp q; rw [hP2, e0] at this; omega), show P - 2 = 0 by omega]
          rfl
      rw [← e1]
      rfl
    · show (if 2 ≤ mr 2 then some (mr 2 - 2) else some 0) = some (nI (P - 2))
      rw [m2]
      by_cases c : 2 ≤ P
      · rw [if_pos (show (2 : Int32) ≤ nI P from nI_le c (by omega))]
        exact congrArg some (pk_sub (b := 2) c)
      · rw [if_neg (show ¬ (2 : Int32) ≤ nI P from nI_ge (show P < 2 by omega) (by decide)), show P - 2 = 0 by omega]
        rfl
  · exact go (lo := 0) (hi := 2) (bits := bits) htr hok0 hr0 hm0 hn hpd hb hl hpl hta x2 (by omega) rfl (by omega) rfl (fun _ => rfl) (by rw [m6, ← r6]; rfl) (fun v h1 h2 e => ⟨a, b, P, G, S, hh, v, _, ⟨o1, o2, o3, o4, o5, o6, o7, o8, o9, o10, o11, h2⟩, rfl, ⟨r0, r1, r2, r3, r4, r5, e⟩, ⟨m0, m1, m2, m3, m4, m5, e⟩, fun c => absurd c (by decide)⟩)
end PST
