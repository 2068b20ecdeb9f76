/-! ## RungPlayModel.in -/
abbrev rmX7_in : Room := { frames := 0, cells := 0, slots := 0, locals := 0 }
noncomputable def b_X7_in_14  : Option (Int32) :=
  (some 0)
noncomputable def f_X7_in (x0 : Int32) (x1 : Int32) (x2 : Int32) : Option (Int32) :=
  (if x0 < x1 then (b_X7_in_14 ) else (if x2 < x0 then (b_X7_in_14 ) else (some 1)))
set_option maxHeartbeats 4000000 in
set_option maxRecDepth 100000 in
theorem B_X7_in_14 {p : Program} {l : Launch} {e : Env} {s : State} {m : MethodId} {args : Array Value} {below : List Frame} {meth : Method} {c : Code} {A : Nat → Prop} {dC : Nat → ClassId} {dI : Nat → Nat → Nat} {cI cJ cZ : ClassId} (C0 : q_C p s m args meth c (dC, dI) (q_T cI cJ cZ) A RX7 wsX7_in cX7_in 3 (some .boolean))  {R : Int32} (hf : b_X7_in_14  = some R) : ∀ (H : Heap) (locs : List Loc) (ls : Array Slot), va_P (dC, dI) vwCl [] H → va_D A [] → va_S A s.heap H locs → lv_has ls 3 [] → W p l e rmX7_in s m args below meth c H locs 0 0 (MQ below (qI (dC, dI) (q_T cI cJ cZ) [] R A) args s 0 0 A) (F0 m 14 ls []) := by
  obtain ⟨hx, hb, hml, hown, hts, hrt, hlk, hK, hX, hA⟩ := id C0
  intro H locs ls hP hD hS hl
  unfold b_X7_in_14 at hf
  refine lv_iconst (v := 0) hx hb dX7_in_14 (by decide) ?_
  obtain rfl := Option.some.inj hf
  exact q_retZ C0 (by rfl) hP hD hS dX7_in_15
set_option maxHeartbeats 4000000 in
set_option maxRecDepth 100000 in
theorem B_X7_in_0 {p : Program} {l : Launch} {e : Env} {s : State} {m : MethodId} {args : Array Value} {below : List Frame} {meth : Method} {c : Code} {A : Nat → Prop} {dC : Nat → ClassId} {dI : Nat → Nat → Nat} {cI cJ cZ : ClassId} (C0 : q_C p s m args meth c (dC, dI) (q_T cI cJ cZ) A RX7 wsX7_in cX7_in 3 (some .boolean)) {x0 : Int32} {x1 : Int32} {x2 : Int32} {R : Int32} (hf : f_X7_in x0 x1 x2 = some R) : ∀ (H : Heap) (locs : List Loc) (ls : Array Slot), va_P (dC, dI) vwCl [] H → va_D A [] → va_S A s.heap H locs → lv_has ls 3 [(0, .int x0), (1, .int x1), (2, .int x2)] → W p l e rmX7_in s m args below meth c H locs 0 0 (MQ below (qI (dC, dI) (q_T cI cJ cZ) [] R A) args s 0 0 A) (F0 m 0 ls []) := by
  obtain ⟨hx, hb, hml, hown, hts, hrt, hlk, hK, hX, hA⟩ := id C0
  intro H locs ls hP hD hS hl
  unfold f_X7_in at hf
  refine lv_iload_n hx hb dX7_in_0 rfl (lv_at hl 0 rfl) ?_
  refine lv_iload_n hx hb dX7_in_1 rfl (lv_at hl 1 rfl) ?_
  refine lv_icmp_lt (tgt := 14) hx hb dX7_in_2 (by decide) (fun hc1 => ?_) (fun hc1 => ?_)
  · have hf := q_if hf hc1
    exact B_X7_in_14 C0 hf H locs ls hP hD hS (lv_sub hl [] rfl)
  · have hf := q_nif hf hc1
    refine lv_iload_n hx hb dX7_in_5 rfl (lv_at hl 0 rfl) ?_
    refine lv_iload_n hx hb dX7_in_6 rfl (lv_at hl 2 rfl) ?_
    refine lv_icmp_gt (tgt := 14) hx hb dX7_in_7 (by decide) (fun hc2 => ?_) (fun hc2 => ?_)
    · have hf := q_if hf hc2
      exact B_X7_in_14 C0 hf H locs ls hP hD hS (lv_sub hl [] rfl)
    · have hf := q_nif hf hc2
      refine lv_iconst (v := 1) hx hb dX7_in_10 (by decide) ?_
      refine lv_goto (tgt := 15) hx hb dX7_in_11 (by decide) ?_
      obtain rfl := Option.some.inj hf
      exact q_retZ C0 (by rfl) hP hD hS dX7_in_15
set_option maxHeartbeats 4000000 in
set_option maxRecDepth 100000 in
theorem c_X7_in {l : Launch} {dC : Nat → ClassId} {dI : Nat → Nat → Nat} {cI cJ cZ : ClassId} {x0 : Int32} {x1 : Int32} {x2 : Int32} {R : Int32} (hf : f_X7_in x0 x1 x2 = some R) : q_M l yX7_in wsX7_in rmX7_in (dC, dI) (q_T cI cJ cZ) [.int x0, .int x1, .int x2] [] (qI (dC, dI) (q_T cI cJ cZ) [] R) := by
  refine q_body (cc := cX7_in) (maxL := 3) (ret := (some .boolean)) (by decide) rfl (Nat.le_of_ble_eq_true rfl) ?_
  intro p e s m args below meth c A C0 ls hP hD hS hl
  have hl : lv_has ls 3 [(0, .int x0), (1, .int x1), (2, .int x2)] := hl
  exact B_X7_in_0 C0 hf s.heap [] ls hP hD hS hl
/-! ## RungPlayModel.most -/
abbrev rmX7_most : Room := { frames := 0, cells := 0, slots := 0, locals := 0 }
theorem m_X7_most_f7 : Cond.fieldLink RX7 7 RX7 "rules" "[I" ∈ wsX7_most := by decide +kernel
theorem in_X7_most_X7 : ∀ w ∈ wsX70, w ∈ wsX7_most := by decide +kernel
noncomputable def f_X7_most (x1 : Int32) (th : Int32) (tc : Int64) (mr : (Nat → Int32)) (pd : Int32) (mp : (Nat → Int32)) (ch : (Nat → Int64)) (la : (Nat → Int64)) (be : Int64) (se : (Nat → Int64)) (ta : (Nat → Int32)) (fs : Int32) : Option (Int32) :=
  (if x1 = 0 then (some 9) else (if x1 = 1 then (some 9) else (if x1 = 2 then (some 5) else (if x1 = 3 then (some 6) else (if x1 = 4 then (some 3) else (if x1 = 5 then (if 2 ≤ (mr 2) then (some ((mr 2) - 2)) else (some 0)) else (some 2)))))))
set_option maxHeartbeats 4000000 in
set_option maxRecDepth 100000 in
theorem B_X7_most_0 {p : Program} {l : Launch} {e : Env} {s : State} {m : MethodId} {args : Array Value} {below : List Frame} {meth : Method} {c : Code} {A : Nat → Prop} {dC : Nat → ClassId} {dI : Nat → Nat → Nat} {cI cJ cZ : ClassId} {bM b0 b1 b2 b3 b4 b5 : Nat} (C0 : q_C p s m args meth c (dC, dI) (q_T cI cJ cZ) A RX7 wsX7_most cX7_most 2 (some .int)) {x1 : Int32} {th : Int32} {tc : Int64} {mr : (Nat → Int32)} {pd : Int32} {mp : (Nat → Int32)} {ch : (Nat → Int64)} {la : (Nat → Int64)} {be : Int64} {se : (Nat → Int64)} {ta : (Nat → Int32)} {fs : Int32} {R : Int32} (hf : f_X7_most x1 th tc mr pd mp ch la be se ta fs = some R) : ∀ (H : Heap) (locs : List Loc) (ls : Array Slot), va_P (dC, dI) vwCl [(bM, .inr (7, [.int th, .long tc, .ref b0, .int pd, .ref b1, .ref b2, .ref b3, .long be, .ref b4, .ref b5, .int fs])), (b0, .inl (cI, 7, .inl mr)), (b1, .inl (cI, 400, .inl mp)), (b2, .inl (cJ, 49, .inr (.inl ch))), (b3, .inl (cJ, 49, .inr (.inl la))), (b4, .inl (cJ, 128, .inr (.inl se))), (b5, .inl (cI, 13, .inl ta))] H → va_D A [(bM, .inr (7, [.int th, .long tc, .ref b0, .int pd, .ref b1, .ref b2, .ref b3, .long be, .ref b4, .ref b5, .int fs])), (b0, .inl (cI, 7, .inl mr)), (b1, .inl (cI, 400, .inl mp)), (b2, .inl (cJ, 49, .inr (.inl ch))), (b3, .inl (cJ, 49, .inr (.inl la))), (b4, .inl (cJ, 128, .inr (.inl se))), (b5, .inl (cI, 13, .inl ta))] → va_S A s.heap H locs → lv_has ls 2 [(0, .ref bM), (1, .int x1)] → W p l e rmX7_most s m args below meth c H locs 0 0 (MQ below (qI (dC, dI) (q_T cI cJ cZ) [(bM, .inr (7, [.int th, .long tc, .ref b0, .int pd, .ref b1, .ref b2, .ref b3, .long be, .ref b4, .ref b5, .int fs])), (b0, .inl (cI, 7, .inl mr)), (b1, .inl (cI, 400, .inl mp)), (b2, .inl (cJ, 49, .inr (.inl ch))), (b3, .inl (cJ, 49, .inr (.inl la))), (b4, .inl (cJ, 128, .inr (.inl se))), (b5, .inl (cI, 13, .inl ta))] R A) args s 0 0 A) (F0 m 0 ls []) := by
  obtain ⟨hx, hb, hml, hown, hts, hrt, hlk, hK, hX, hA⟩ := id C0
  intro H locs ls hP hD hS hl
  unfold f_X7_most at hf
  refine lv_iload_n hx hb dX7_most_0 rfl (lv_at hl 1 rfl) ?_
  by_cases hs1 : x1 = 0
  · have hf := q_if hf hs1
    refine lv_tableIn (off := 39) (tgt := 40) hx hb dX7_most_1 (by rw [hs1]; decide) (by rw [hs1]; decide) (by rw [hs1]; rfl) (by decide) ?_
    refine lv_bipush (v := 9) hx hb dX7_most_40 (by decide) ?_
    obtain rfl := Option.some.inj hf
    exact q_retI C0 hP hD hS dX7_most_42
  have hf := q_nif hf hs1
  by_cases hs2 : x1 = 1
  · have hf := q_if hf hs2
    refine lv_tableIn (off := 39) (tgt := 40) hx hb dX7_most_1 (by rw [hs2]; decide) (by rw [hs2]; decide) (by rw [hs2]; rfl) (by decide) ?_
    refine lv_bipush (v := 9) hx hb dX7_most_40 (by decide) ?_
    obtain rfl := Option.some.inj hf
    exact q_retI C0 hP hD hS dX7_most_42
  have hf := q_nif hf hs2
  by_cases hs3 : x1 = 2
  · have hf := q_if hf hs3
    refine lv_tableIn (off := 42) (tgt := 43) hx hb dX7_most_1 (by rw [hs3]; decide) (by rw [hs3]; decide) (by rw [hs3]; rfl) (by decide) ?_
    refine lv_iconst (v := 5) hx hb dX7_most_43 (by decide) ?_
    obtain rfl := Option.some.inj hf
    exact q_retI C0 hP hD hS dX7_most_44
  have hf := q_nif hf hs3
  by_cases hs4 : x1 = 3
  · have hf := q_if hf hs4
    refine lv_tableIn (off := 44) (tgt := 45) hx hb dX7_most_1 (by rw [hs4]; decide) (by rw [hs4]; decide) (by rw [hs4]; rfl) (by decide) ?_
    refine lv_bipush (v := 6) hx hb dX7_most_45 (by decide) ?_
    obtain rfl := Option.some.inj hf
    exact q_retI C0 hP hD hS dX7_most_47
  have hf := q_nif hf hs4
  by_cases hs5 : x1 = 4
  · have hf := q_if hf hs5
    refine lv_tableIn (off := 47) (tgt := 48) hx hb dX7_most_1 (by rw [hs5]; decide) (by rw [hs5]; decide) (by rw [hs5]; rfl) (by decide) ?_
    refine lv_iconst (v := 3) hx hb dX7_most_48 (by decide) ?_
    obtain rfl := Option.some.inj hf
    exact q_retI C0 hP hD hS dX7_most_49
  have hf := q_nif hf hs5
  by_cases hs6 : x1 = 5
  · have hf := q_if hf hs6
    refine lv_tableIn (off := 49) (tgt := 50) hx hb dX7_most_1 (by rw [hs6]; decide) (by rw [hs6]; decide) (by rw [hs6]; rfl) (by decide) ?_
    refine lv_aload_n hx hb dX7_most_50 rfl (lv_at hl 0 rfl) ?_
    refine q_get (TT := TX7) C0 in_X7_most_X7 2 m_X7_most_f7 hP 0 rfl rfl (by decide) rfl rfl dX7_most_51 ?_
    refine lv_iconst (v := 2) hx hb dX7_most_54 (by decide) ?_
    refine q_iald (v := mr 2) C0 hP 1 0 rfl rfl (by unfold vp_in; decide) rfl dX7_most_55 ?_
    refine lv_iconst (v := 2) hx hb dX7_most_56 (by decide) ?_
    refine lv_icmp_ge (tgt := 64) hx hb dX7_most_57 (by decide) (fun hc7 => ?_) (fun hc7 => ?_)
    · have hf := q_if hf hc7
      refine lv_aload_n hx hb dX7_most_64 rfl (lv_at hl 0 rfl) ?_
      refine q_get (TT := TX7) C0 in_X7_most_X7 2 m_X7_most_f7 hP 0 rfl rfl (by decide) rfl rfl dX7_most_65 ?_
      refine lv_iconst (v := 2) hx hb dX7_most_68 (by decide) ?_
      refine q_iald (v := mr 2) C0 hP 1 0 rfl rfl (by unfold vp_in; decide) rfl dX7_most_69 ?_
      refine lv_iconst (v := 2) hx hb dX7_most_70 (by decide) ?_
      refine lv_isub hx hb dX7_most_71 ?_
      obtain rfl := Option.some.inj hf
      exact q_retI C0 hP hD hS dX7_most_72
    · have hf := q_nif hf hc7
      refine lv_iconst (v := 0) hx hb dX7_most_60 (by decide) ?_
      refine lv_goto (tgt := 72) hx hb dX7_most_61 (by decide) ?_
      obtain rfl := Option.some.inj hf
      exact q_retI C0 hP hD hS dX7_most_72
  have hf := q_nif hf hs6
  refine lv_tableOut (tgt := 73) hx hb dX7_most_1 (by have n0 := lv_neT (a := 0) hs1 rfl; have n1 := lv_neT (a := 1) hs2 rfl; have n2 := lv_neT (a := 2) hs3 rfl; have n3 := lv_neT (a := 3) hs4 rfl; have n4 := lv_neT (a := 4) hs5 rfl; have n5 := lv_neT (a := 5) hs6 rfl; omega) (by decide) ?_
  refine lv_iconst (v := 2) hx hb dX7_most_73 (by decide) ?_
  obtain rfl := Option.some.inj hf
  exact q_retI C0 hP hD hS dX7_most_74
set_option maxHeartbeats 4000000 in
set_option maxRecDepth 100000 in
theorem c_X7_most {l : Launch} {dC : Nat → ClassId} {dI : Nat → Nat → Nat} {cI cJ cZ : ClassId} {bM b0 b1 b2 b3 b4 b5 : Nat} {x1 : Int32} {th : Int32} {tc : Int64} {mr : (Nat → Int32)} {pd : Int32} {mp : (Nat → Int32)} {ch : (Nat → Int64)} {la : (Nat → Int64)} {be : Int64} {se : (Nat → Int64)} {ta : (Nat → Int32)} {fs : Int32} {R : Int32} (hf : f_X7_most x1 th tc mr pd mp ch la be se ta fs = some R) : q_M l yX7_most wsX7_most rmX7_most (dC, dI) (q_T cI cJ cZ) [.ref bM, .int x1] [(bM, .inr (7, [.int th, .long tc, .ref b0, .int pd, .ref b1, .ref b2, .ref b3, .long be, .ref b4, .ref b5, .int fs])), (b0, .inl (cI, 7, .inl mr)), (b1, .inl (cI, 400, .inl mp)), (b2, .inl (cJ, 49, .inr (.inl ch))), (b3, .inl (cJ, 49, .inr (.inl la))), (b4, .inl (cJ, 128, .inr (.inl se))), (b5, .inl (cI, 13, .inl ta))] (qI (dC, dI) (q_T cI cJ cZ) [(bM, .inr (7, [.int th, .long tc, .ref b0, .int pd, .ref b1, .ref b2, .ref b3, .long be, .ref b4, .ref b5, .int fs])), (b0, .inl (cI, 7, .inl mr)), (b1, .inl (cI, 400, .inl mp)), (b2, .inl (cJ, 49, .inr (.inl ch))), (b3, .inl (cJ, 49, .inr (.inl la))), (b4, .inl (cJ, 128, .inr (.inl se))), (b5, .inl (cI, 13, .inl ta))] R) := by
  refine q_body (cc := cX7_most) (maxL := 2) (ret := (some .int)) (by decide) rfl (Nat.le_of_ble_eq_true rfl) ?_
  intro p e s m args below meth c A C0 ls hP hD hS hl
  have hl : lv_has ls 2 [(0, .ref bM), (1, .int x1)] := hl
  exact B_X7_most_0 C0 hf s.heap [] ls hP hD hS hl
/-! ## RungPlayModel.wonOf -/
abbrev rmX7_wonOf : Room := { frames := 0, cells := 0, slots := 0, locals := 0 }
theorem m_X7_wonOf_f7 : Cond.fieldLink RX7 7 RX7 "rules" "[I" ∈ wsX7_wonOf := by decide +kernel
theorem in_X7_wonOf_X7 : ∀ w ∈ wsX70, w ∈ wsX7_wonOf := by decide +kernel
noncomputable def b_X7_wonOf_115 (th : Int32) (tc : Int64) (mr : (Nat → Int32)) (pd : Int32) (mp : (Nat → Int32)) (ch : (Nat → Int64)) (la : (Nat → Int64)) (be : Int64) (se : (Nat → Int64)) (ta : (Nat → Int32)) (fs : Int32) : Option (Int32) :=
  (some 0)
noncomputable def b_X7_wonOf_99 (x2 : Int32) (x3 : Int32) (x4 : Int32) (th : Int32) (tc : Int64) (mr : (Nat → Int32)) (pd : Int32) (mp : (Nat → Int32)) (ch : (Nat → Int64)) (la : (Nat → Int64)) (be : Int64) (se : (Nat → Int64)) (ta : (Nat → Int32)) (fs : Int32) : Option (Int32) :=
  (if x3 < (x4 - 1) then (b_X7_wonOf_115 th tc mr pd mp ch la be se ta fs) else (if x2 = 0 then (some 2) else (b_X7_wonOf_115 th tc mr pd mp ch la be se ta fs)))
noncomputable def b_X7_wonOf_72 (x1 : Int32) (x2 : Int32) (x3 : Int32) (x4 : Int32) (th : Int32) (tc : Int64) (mr : (Nat → Int32)) (pd : Int32) (mp : (Nat → Int32)) (ch : (Nat → Int64)) (la : (Nat → Int64)) (be : Int64) (se : (Nat → Int64)) (ta : (Nat → Int32)) (fs : Int32) : Option (Int32) :=
  (if x1 ≤ 1 then (some 0) else (if x4 < 3 then (some 0) else (if x2 < (x4 - 1) then (b_X7_wonOf_99 x2 x3 x4 th tc mr pd mp ch la be se ta fs) else (if x3 = 0 then (some 1) else (b_X7_wonOf_99 x2 x3 x4 th tc mr pd mp ch la be se ta fs)))))
noncomputable def b_X7_wonOf_55 (x1 : Int32) (x2 : Int32) (x3 : Int32) (x4 : Int32) (th : Int32) (tc : Int64) (mr : (Nat → Int32)) (pd : Int32) (mp : (Nat → Int32)) (ch : (Nat → Int64)) (la : (Nat → Int64)) (be : Int64) (se : (Nat → Int64)) (ta : (Nat → Int32)) (fs : Int32) : Option (Int32) :=
  (if x1 ≤ 0 then (b_X7_wonOf_72 x1 x2 x3 x4 th tc mr pd mp ch la be se ta fs) else (if x3 < x4 then (b_X7_wonOf_72 x1 x2 x3 x4 th tc mr pd mp ch la be se ta fs) else (if x3 ≤ x2 then (b_X7_wonOf_72 x1 x2 x3 x4 th tc mr pd mp ch la be se ta fs) else (some 2))))
noncomputable def b_X7_wonOf_38 (x1 : Int32) (x2 : Int32) (x3 : Int32) (x4 : Int32) (th : Int32) (tc : Int64) (mr : (Nat → Int32)) (pd : Int32) (mp : (Nat → Int32)) (ch : (Nat → Int64)) (la : (Nat → Int64)) (be : Int64) (se : (Nat → Int64)) (ta : (Nat → Int32)) (fs : Int32) : Option (Int32) :=
  (if x1 ≤ 0 then (b_X7_wonOf_55 x1 x2 x3 x4 th tc mr pd mp ch la be se ta fs) else (if x2 < x4 then (b_X7_wonOf_55 x1 x2 x3 x4 th tc mr pd mp ch la be se ta fs) else (if x2 ≤ x3 then (b_X7_wonOf_55 x1 x2 x3 x4 th tc mr pd mp ch la be se ta fs) else (some 1))))
noncomputable def b_X7_wonOf_23 (x1 : Int32) (x2 : Int32) (x3 : Int32) (x4 : Int32) (th : Int32) (tc : Int64) (mr : (Nat → Int32)) (pd : Int32) (mp : (Nat → Int32)) (ch : (Nat → Int64)) (la : (Nat → Int64)) (be : Int64) (se : (Nat → Int64)) (ta : (Nat → Int32)) (fs : Int32) : Option (Int32) :=
  (if x3 < x4 then (b_X7_wonOf_38 x1 x2 x3 x4 th tc mr pd mp ch la be se ta fs) else (if (x3 - x2) < 2 then (b_X7_wonOf_38 x1 x2 x3 x4 th tc mr pd mp ch la be se ta fs) else (some 2)))
noncomputable def f_X7_wonOf (x1 : Int32) (x2 : Int32) (x3 : Int32) (th : Int32) (tc : Int64) (mr : (Nat → Int32)) (pd : Int32) (mp : (Nat → Int32)) (ch : (Nat → Int64)) (la : (Nat → Int64)) (be : Int64) (se : (Nat → Int64)) (ta : (Nat → Int32)) (fs : Int32) : Option (Int32) :=
  (if x2 < (mr 2) then (b_X7_wonOf_23 x1 x2 x3 (mr 2) th tc mr pd mp ch la be se ta fs) else (if (x2 - x3) < 2 then (b_X7_wonOf_23 x1 x2 x3 (mr 2) th tc mr pd mp ch la be se ta fs) else (some 1)))
set_option maxHeartbeats 4000000 in
set_option maxRecDepth 100000 in
theorem B_X7_wonOf_115 {p : Program} {l : Launch} {e : Env} {s : State} {m : MethodId} {args : Array Value} {below : List Frame} {meth : Method} {c : Code} {A : Nat → Prop} {dC : Nat → ClassId} {dI : Nat → Nat → Nat} {cI cJ cZ : ClassId} {bM b0 b1 b2 b3 b4 b5 : Nat} (C0 : q_C p s m args meth c (dC, dI) (q_T cI cJ cZ) A RX7 wsX7_wonOf cX7_wonOf 5 (some .int)) {th : Int32} {tc : Int64} {mr : (Nat → Int32)} {pd : Int32} {mp : (Nat → Int32)} {ch : (Nat → Int64)} {la : (Nat → Int64)} {be : Int64} {se : (Nat → Int64)} {ta : (Nat → Int32)} {fs : Int32} {R : Int32} (hf : b_X7_wonOf_115 th tc mr pd mp ch la be se ta fs = some R) : ∀ (H : Heap) (locs : List Loc) (ls : Array Slot), va_P (dC, dI) vwCl [(bM, .inr (7, [.int th, .long tc, .ref b0, .int pd, .ref b1, .ref b2, .ref b3, .long be, .ref b4, .ref b5, .int fs])), (b0, .inl (cI, 7, .inl mr)), (b1, .inl (cI, 400, .inl mp)), (b2, .inl (cJ, 49, .inr (.inl ch))), (b3, .inl (cJ, 49, .inr (.inl la))), (b4, .inl (cJ, 128, .inr (.inl se))), (b5, .inl (cI, 13, .inl ta))] H → va_D A [(bM, .inr (7, [.int th, .long tc, .ref b0, .int pd, .ref b1, .ref b2, .ref b3, .long be, .ref b4, .ref b5, .int fs])), (b0, .inl (cI, 7, .inl mr)), (b1, .inl (cI, 400, .inl mp)), (b2, .inl (cJ, 49, .inr (.inl ch))), (b3, .inl (cJ, 49, .inr (.inl la))), (b4, .inl (cJ, 128, .inr (.inl se))), (b5, .inl (cI, 13, .inl ta))] → va_S A s.heap H locs → lv_has ls 5 [] → W p l e rmX7_wonOf s m args below meth c H locs 0 0 (MQ below (qI (dC, dI) (q_T cI cJ cZ) [(bM, .inr (7, [.int th, .long tc, .ref b0, .int pd, .ref b1, .ref b2, .ref b3, .long be, .ref b4, .ref b5, .int fs])), (b0, .inl (cI, 7, .inl mr)), (b1, .inl (cI, 400, .inl mp)), (b2, .inl (cJ, 49, .inr (.inl ch))), (b3, .inl (cJ, 49, .inr (.inl la))), (b4, .inl (cJ, 128, .inr (.inl se))), (b5, .inl (cI, 13, .inl ta))] R A) args s 0 0 A) (F0 m 115 ls []) := by
  obtain ⟨hx, hb, hml, hown, hts, hrt, hlk, hK, hX, hA⟩ := id C0
  intro H locs ls hP hD hS hl
  unfold b_X7_wonOf_115 at hf
  refine lv_iconst (v := 0) hx hb dX7_wonOf_115 (by decide) ?_
  obtain rfl := Option.some.inj hf
  exact q_retI C0 hP hD hS dX7_wonOf_116
set_option maxHeartbeats 4000000 in
set_option maxRecDepth 100000 in
theorem B_X7_wonOf_99 {p : Program} {l : Launch} {e : Env} {s : State} {m : MethodId} {args : Array Value} {below : List Frame} {meth : Method} {c : Code} {A : Nat → Prop} {dC : Nat → ClassId} {dI : Nat → Nat → Nat} {cI cJ cZ : ClassId} {bM b0 b1 b2 b3 b4 b5 : Nat} (C0 : q_C p s m args meth c (dC, dI) (q_T cI cJ cZ) A RX7 wsX7_wonOf cX7_wonOf 5 (some .int)) {x2 : Int32} {x3 : Int32} {x4 : Int32} {th : Int32} {tc : Int64} {mr : (Nat → Int32)} {pd : Int32} {mp : (Nat → Int32)} {ch : (Nat → Int64)} {la : (Nat → Int64)} {be : Int64} {se : (Nat → Int64)} {ta : (Nat → Int32)} {fs : Int32} {R : Int32} (hf : b_X7_wonOf_99 x2 x3 x4 th tc mr pd mp ch la be se ta fs = some R) : ∀ (H : Heap) (locs : List Loc) (ls : Array Slot), va_P (dC, dI) vwCl [(bM, .inr (7, [.int th, .long tc, .ref b0, .int pd, .ref b1, .ref b2, .ref b3, .long be, .ref b4, .ref b5, .int fs])), (b0, .inl (cI, 7, .inl mr)), (b1, .inl (cI, 400, .inl mp)), (b2, .inl (cJ, 49, .inr (.inl ch))), (b3, .inl (cJ, 49, .inr (.inl la))), (b4, .inl (cJ, 128, .inr (.inl se))), (b5, .inl (cI, 13, .inl ta))] H → va_D A [(bM, .inr (7, [.int th, .long tc, .ref b0, .int pd, .ref b1, .ref b2, .ref b3, .long be, .ref b4, .ref b5, .int fs])), (b0, .inl (cI, 7, .inl mr)), (b1, .inl (cI, 400, .inl mp)), (b2, .inl (cJ, 49, .inr (.inl ch))), (b3, .inl (cJ, 49, .inr (.inl la))), (b4, .inl (cJ, 128, .inr (.inl se))), (b5, .inl (cI, 13, .inl ta))] → va_S A s.heap H locs → lv_has ls 5 [(2, .int x2), (3, .int x3), (4, .int x4)] → W p l e rmX7_wonOf s m args below meth c H locs 0 0 (MQ below (qI (dC, dI) (q_T cI cJ cZ) [(bM, .inr (7, [.int th, .long tc, .ref b0, .int pd, .ref b1, .ref b2, .ref b3, .long be, .ref b4, .ref b5, .int fs])), (b0, .inl (cI, 7, .inl mr)), (b1, .inl (cI, 400, .inl mp)), (b2, .inl (cJ, 49, .inr (.inl ch))), (b3, .inl (cJ, 49, .inr (.inl la))), (b4, .inl (cJ, 128, .inr (.inl se))), (b5, .inl (cI, 13, .inl ta))] R A) args s 0 0 A) (F0 m 99 ls []) := by
  obtain ⟨hx, hb, hml, hown, hts, hrt, hlk, hK, hX, hA⟩ := id C0
  intro H locs ls hP hD hS hl
  unfold b_X7_wonOf_99 at hf
  refine lv_iload_n hx hb dX7_wonOf_99 rfl (lv_at hl 1 rfl) ?_
  refine lv_iload hx hb dX7_wonOf_100 (lv_at hl 2 rfl) ?_
  refine lv_iconst (v := 1) hx hb dX7_wonOf_102 (by decide) ?_
  refine lv_isub hx hb dX7_wonOf_103 ?_
  refine lv_icmp_lt (tgt := 115) hx hb dX7_wonOf_104 (by decide) (fun hc1 => ?_) (fun hc1 => ?_)
  · have hf := q_if hf hc1
    exact B_X7_wonOf_115 C0 hf H locs ls hP hD hS (lv_sub hl [] rfl)
  · have hf := q_nif hf hc1
    refine lv_iload_n hx hb dX7_wonOf_107 rfl (lv_at hl 0 rfl) ?_
    refine lv_if_ne (tgt := 115) hx hb dX7_wonOf_108 (by decide) (fun hc2 => ?_) (fun hc2 => ?_)
    · have hf := q_nif hf hc2
      exact B_X7_wonOf_115 C0 hf H locs ls hP hD hS (lv_sub hl [] rfl)
    · have hf := q_if hf hc2
      refine lv_iconst (v := 2) hx hb dX7_wonOf_111 (by decide) ?_
      refine lv_goto (tgt := 116) hx hb dX7_wonOf_112 (by decide) ?_
      obtain rfl := Option.some.inj hf
      exact q_retI C0 hP hD hS dX7_wonOf_116
set_option maxHeartbeats 4000000 in
set_option maxRecDepth 100000 in
theorem B_X7_wonOf_72 {p : Program} {l : Launch} {e : Env} {s : State} {m : MethodId} {args : Array Value} {below : List Frame} {meth : Method} {c : Code} {A : Nat → Prop} {dC : Nat → ClassId} {dI : Nat → Nat → Nat} {cI cJ cZ : ClassId} {bM b0 b1 b2 b3 b4 b5 : Nat} (C0 : q_C p s m args meth c (dC, dI) (q_T cI cJ cZ) A RX7 wsX7_wonOf cX7_wonOf 5 (some .int)) {x1 : Int32} {x2 : Int32} {x3 : Int32} {x4 : Int32} {th : Int32} {tc : Int64} {mr : (Nat → Int32)} {pd : Int32} {mp : (Nat → Int32)} {ch : (Nat → Int64)} {la : (Nat → Int64)} {be : Int64} {se : (Nat → Int64)} {ta : (Nat → Int32)} {fs : Int32} {R : Int32} (hf : b_X7_wonOf_72 x1 x2 x3 x4 th tc mr pd mp ch la be se ta fs = some R) : ∀ (H : Heap) (locs : List Loc) (ls : Array Slot), va_P (dC, dI) vwCl [(bM, .inr (7, [.int th, .long tc, .ref b0, .int pd, .ref b1, .ref b2, .ref b3, .long be, .ref b4, .ref b5, .int fs])), (b0, .inl (cI, 7, .inl mr)), (b1, .inl (cI, 400, .inl mp)), (b2, .inl (cJ, 49, .inr (.inl ch))), (b3, .inl (cJ, 49, .inr (.inl la))), (b4, .inl (cJ, 128, .inr (.inl se))), (b5, .inl (cI, 13, .inl ta))] H → va_D A [(bM, .inr (7, [.int th, .long tc, .ref b0, .int pd, .ref b1, .ref b2, .ref b3, .long be, .ref b4, .ref b5, .int fs])), (b0, .inl (cI, 7, .inl mr)), (b1, .inl (cI, 400, .inl mp)), (b2, .inl (cJ, 49, .inr (.inl ch))), (b3, .inl (cJ, 49, .inr (.inl la))), (b4, .inl (cJ, 128, .inr (.inl se))), (b5, .inl (cI, 13, .inl ta))] → va_S A s.heap H locs → lv_has ls 5 [(1, .int x1), (2, .int x2), (3, .int x3), (4, .int x4)] → W p l e rmX7_wonOf s m args below meth c H locs 0 0 (MQ below (qI (dC, dI) (q_T cI cJ cZ) [(bM, .inr (7, [.int th, .long tc, .ref b0, .int pd, .ref b1, .ref b2, .ref b3, .long be, .ref b4, .ref b5, .int fs])), (b0, .inl (cI, 7, .inl mr)), (b1, .inl (cI, 400, .inl mp)), (b2, .inl (cJ, 49, .inr (.inl ch))), (b3, .inl (cJ, 49, .inr (.inl la))), (b4, .inl (cJ, 128, .inr (.inl se))), (b5, .inl (cI, 13, .inl ta))] R A) args s 0 0 A) (F0 m 72 ls []) := by
  obtain ⟨hx, hb, hml, hown, hts, hrt, hlk, hK, hX, hA⟩ := id C0
  intro H locs ls hP hD hS hl
  unfold b_X7_wonOf_72 at hf
  refine lv_iload_n hx hb dX7_wonOf_72 rfl (lv_at hl 0 rfl) ?_
  refine lv_iconst (v := 1) hx hb dX7_wonOf_73 (by decide) ?_
  refine lv_icmp_le (tgt := 117) hx hb dX7_wonOf_74 (by decide) (fun hc3 => ?_) (fun hc3 => ?_)
  · have hf := q_if hf hc3
    refine lv_iconst (v := 0) hx hb dX7_wonOf_117 (by decide) ?_
    obtain rfl := Option.some.inj hf
    exact q_retI C0 hP hD hS dX7_wonOf_118
  · have hf := q_nif hf hc3
    refine lv_iload hx hb dX7_wonOf_77 (lv_at hl 3 rfl) ?_
    refine lv_iconst (v := 3) hx hb dX7_wonOf_79 (by decide) ?_
    refine lv_icmp_lt (tgt := 117) hx hb dX7_wonOf_80 (by decide) (fun hc4 => ?_) (fun hc4 => ?_)
    · have hf := q_if hf hc4
      refine lv_iconst (v := 0) hx hb dX7_wonOf_117 (by decide) ?_
      obtain rfl := Option.some.inj hf
      exact q_retI C0 hP hD hS dX7_wonOf_118
    · have hf := q_nif hf hc4
      refine lv_iload_n hx hb dX7_wonOf_83 rfl (lv_at hl 1 rfl) ?_
      refine lv_iload hx hb dX7_wonOf_84 (lv_at hl 3 rfl) ?_
      refine lv_iconst (v := 1) hx hb dX7_wonOf_86 (by decide) ?_
      refine lv_isub hx hb dX7_wonOf_87 ?_
      refine lv_icmp_lt (tgt := 99) hx hb dX7_wonOf_88 (by decide) (fun hc5 => ?_) (fun hc5 => ?_)
      · have hf := q_if hf hc5
        exact B_X7_wonOf_99 C0 hf H locs ls hP hD hS (lv_sub hl [1, 2, 3] rfl)
      · have hf := q_nif hf hc5
        refine lv_iload_n hx hb dX7_wonOf_91 rfl (lv_at hl 2 rfl) ?_
        refine lv_if_ne (tgt := 99) hx hb dX7_wonOf_92 (by decide) (fun hc6 => ?_) (fun hc6 => ?_)
        · have hf := q_nif hf hc6
          exact B_X7_wonOf_99 C0 hf H locs ls hP hD hS (lv_sub hl [1, 2, 3] rfl)
        · have hf := q_if hf hc6
          refine lv_iconst (v := 1) hx hb dX7_wonOf_95 (by decide) ?_
          refine lv_goto (tgt := 116) hx hb dX7_wonOf_96 (by decide) ?_
          obtain rfl := Option.some.inj hf
          exact q_retI C0 hP hD hS dX7_wonOf_116
set_option maxHeartbeats 4000000 in
set_option maxRecDepth 100000 in
theorem B_X7_wonOf_55 {p : Program} {l : Launch} {e : Env} {s : State} {m : MethodId} {args : Array Value} {below : List Frame} {meth : Method} {c : Code} {A : Nat → Prop} {dC : Nat → ClassId} {dI : Nat → Nat → Nat} {cI cJ cZ : ClassId} {bM b0 b1 b2 b3 b4 b5 : Nat} (C0 : q_C p s m args meth c (dC, dI) (q_T cI cJ cZ) A RX7 wsX7_wonOf cX7_wonOf 5 (some .int)) {x1 : Int32} {x2 : Int32} {x3 : Int32} {x4 : Int32} {th : Int32} {tc : Int64} {mr : (Nat → Int32)} {pd : Int32} {mp : (Nat → Int32)} {ch : (Nat → Int64)} {la : (Nat → Int64)} {be : Int64} {se : (Nat → Int64)} {ta : (Nat → Int32)} {fs : Int32} {R : Int32} (hf : b_X7_wonOf_55 x1 x2 x3 x4 th tc mr pd mp ch la be se ta fs = some R) : ∀ (H : Heap) (locs : List Loc) (ls : Array Slot), va_P (dC, dI) vwCl [(bM, .inr (7, [.int th, .long tc, .ref b0, .int pd, .ref b1, .ref b2, .ref b3, .long be, .ref b4, .ref b5, .int fs])), (b0, .inl (cI, 7, .inl mr)), (b1, .inl (cI, 400, .inl mp)), (b2, .inl (cJ, 49, .inr (.inl ch))), (b3, .inl (cJ, 49, .inr (.inl la))), (b4, .inl (cJ, 128, .inr (.inl se))), (b5, .inl (cI, 13, .inl ta))] H → va_D A [(bM, .inr (7, [.int th, .long tc, .ref b0, .int pd, .ref b1, .ref b2, .ref b3, .long be, .ref b4, .ref b5, .int fs])), (b0, .inl (cI, 7, .inl mr)), (b1, .inl (cI, 400, .inl mp)), (b2, .inl (cJ, 49, .inr (.inl ch))), (b3, .inl (cJ, 49, .inr (.inl la))), (b4, .inl (cJ, 128, .inr (.inl se))), (b5, .inl (cI, 13, .inl ta))] → va_S A s.heap H locs → lv_has ls 5 [(1, .int x1), (2, .int x2), (3, .int x3), (4, .int x4)] → W p l e rmX7_wonOf s m args below meth c H locs 0 0 (MQ below (qI (dC, dI) (q_T cI cJ cZ) [(bM, .inr (7, [.int th, .long tc, .ref b0, .int pd, .ref b1, .ref b2, .ref b3, .long be, .ref b4, .ref b5, .int fs])), (b0, .inl (cI, 7, .inl mr)), (b1, .inl (cI, 400, .inl mp)), (b2, .inl (cJ, 49, .inr (.inl ch))), (b3, .inl (cJ, 49, .inr (.inl la))), (b4, .inl (cJ, 128, .inr (.inl se))), (b5, .inl (cI, 13, .inl ta))] R A) args s 0 0 A) (F0 m 55 ls []) := by
  obtain ⟨hx, hb, hml, hown, hts, hrt, hlk, hK, hX, hA⟩ := id C0
  intro H locs ls hP hD hS hl
  unfold b_X7_wonOf_55 at hf
  refine lv_iload_n hx hb dX7_wonOf_55 rfl (lv_at hl 0 rfl) ?_
  refine lv_if_le (tgt := 72) hx hb dX7_wonOf_56 (by decide) (fun hc7 => ?_) (fun hc7 => ?_)
  · have hf := q_if hf hc7
    exact B_X7_wonOf_72 C0 hf H locs ls hP hD hS hl
  · have hf := q_nif hf hc7
    refine lv_iload_n hx hb dX7_wonOf_59 rfl (lv_at hl 2 rfl) ?_
    refine lv_iload hx hb dX7_wonOf_60 (lv_at hl 3 rfl) ?_
    refine lv_icmp_lt (tgt := 72) hx hb dX7_wonOf_62 (by decide) (fun hc8 => ?_) (fun hc8 => ?_)
    · have hf := q_if hf hc8
      exact B_X7_wonOf_72 C0 hf H locs ls hP hD hS hl
    · have hf := q_nif hf hc8
      refine lv_iload_n hx hb dX7_wonOf_65 rfl (lv_at hl 2 rfl) ?_
      refine lv_iload_n hx hb dX7_wonOf_66 rfl (lv_at hl 1 rfl) ?_
      refine lv_icmp_le (tgt := 72) hx hb dX7_wonOf_67 (by decide) (fun hc9 => ?_) (fun hc9 => ?_)
      · have hf := q_if hf hc9
        exact B_X7_wonOf_72 C0 hf H locs ls hP hD hS hl
      · have hf := q_nif hf hc9
        refine lv_iconst (v := 2) hx hb dX7_wonOf_70 (by decide) ?_
        obtain rfl := Option.some.inj hf
        exact q_retI C0 hP hD hS dX7_wonOf_71
set_option maxHeartbeats 4000000 in
set_option maxRecDepth 100000 in
theorem B_X7_wonOf_38 {p : Program} {l : Launch} {e : Env} {s : State} {m : MethodId} {args : Array Value} {below : List Frame} {meth : Method} {c : Code} {A : Nat → Prop} {dC : Nat → ClassId} {dI : Nat → Nat → Nat} {cI cJ cZ : ClassId} {bM b0 b1 b2 b3 b4 b5 : Nat} (C0 : q_C p s m args meth c (dC, dI) (q_T cI cJ cZ) A RX7 wsX7_wonOf cX7_wonOf 5 (some .int)) {x1 : Int32} {x2 : Int32} {x3 : Int32} {x4 : Int32} {th : Int32} {tc : Int64} {mr : (Nat → Int32)} {pd : Int32} {mp : (Nat → Int32)} {ch : (Nat → Int64)} {la : (Nat → Int64)} {be : Int64} {se : (Nat → Int64)} {ta : (Nat → Int32)} {fs : Int32} {R : Int32} (hf : b_X7_wonOf_38 x1 x2 x3 x4 th tc mr pd mp ch la be se ta fs = some R) : ∀ (H : Heap) (locs : List Loc) (ls : Array Slot), va_P (dC, dI) vwCl [(bM, .inr (7, [.int th, .long tc, .ref b0, .int pd, .ref b1, .ref b2, .ref b3, .long be, .ref b4, .ref b5, .int fs])), (b0, .inl (cI, 7, .inl mr)), (b1, .inl (cI, 400, .inl mp)), (b2, .inl (cJ, 49, .inr (.inl ch))), (b3, .inl (cJ, 49, .inr (.inl la))), (b4, .inl (cJ, 128, .inr (.inl se))), (b5, .inl (cI, 13, .inl ta))] H → va_D A [(bM, .inr (7, [.int th, .long tc, .ref b0, .int pd, .ref b1, .ref b2, .ref b3, .long be, .ref b4, .ref b5, .int fs])), (b0, .inl (cI, 7, .inl mr)), (b1, .inl (cI, 400, .inl mp)), (b2, .inl (cJ, 49, .inr (.inl ch))), (b3, .inl (cJ, 49, .inr (.inl la))), (b4, .inl (cJ, 128, .inr (.inl se))), (b5, .inl (cI, 13, .inl ta))] → va_S A s.heap H locs → lv_has ls 5 [(1, .int x1), (2, .int x2), (3, .int x3), (4, .int x4)] → W p l e rmX7_wonOf s m args below meth c H locs 0 0 (MQ below (qI (dC, dI) (q_T cI cJ cZ) [(bM, .inr (7, [.int th, .long tc, .ref b0, .int pd, .ref b1, .ref b2, .ref b3, .long be, .ref b4, .ref b5, .int fs])), (b0, .inl (cI, 7, .inl mr)), (b1, .inl (cI, 400, .inl mp)), (b2, .inl (cJ, 49, .inr (.inl ch))), (b3, .inl (cJ, 49, .inr (.inl la))), (b4, .inl (cJ, 128, .inr (.inl se))), (b5, .inl (cI, 13, .inl ta))] R A) args s 0 0 A) (F0 m 38 ls []) := by
  obtain ⟨hx, hb, hml, hown, hts, hrt, hlk, hK, hX, hA⟩ := id C0
  intro H locs ls hP hD hS hl
  unfold b_X7_wonOf_38 at hf
  refine lv_iload_n hx hb dX7_wonOf_38 rfl (lv_at hl 0 rfl) ?_
  refine lv_if_le (tgt := 55) hx hb dX7_wonOf_39 (by decide) (fun hc10 => ?_) (fun hc10 => ?_)
  · have hf := q_if hf hc10
    exact B_X7_wonOf_55 C0 hf H locs ls hP hD hS hl
  · have hf := q_nif hf hc10
    refine lv_iload_n hx hb dX7_wonOf_42 rfl (lv_at hl 1 rfl) ?_
    refine lv_iload hx hb dX7_wonOf_43 (lv_at hl 3 rfl) ?_
    refine lv_icmp_lt (tgt := 55) hx hb dX7_wonOf_45 (by decide) (fun hc11 => ?_) (fun hc11 => ?_)
    · have hf := q_if hf hc11
      exact B_X7_wonOf_55 C0 hf H locs ls hP hD hS hl
    · have hf := q_nif hf hc11
      refine lv_iload_n hx hb dX7_wonOf_48 rfl (lv_at hl 1 rfl) ?_
      refine lv_iload_n hx hb dX7_wonOf_49 rfl (lv_at hl 2 rfl) ?_
      refine lv_icmp_le (tgt := 55) hx hb dX7_wonOf_50 (by decide) (fun hc12 => ?_) (fun hc12 => ?_)
      · have hf := q_if hf hc12
        exact B_X7_wonOf_55 C0 hf H locs ls hP hD hS hl
      · have hf := q_nif hf hc12
        refine lv_iconst (v := 1) hx hb dX7_wonOf_53 (by decide) ?_
        obtain rfl := Option.some.inj hf
        exact q_retI C0 hP hD hS dX7_wonOf_54
set_option maxHeartbeats 4000000 in
set_option maxRecDepth 100000 in
theorem B_X7_wonOf_23 {p : Program} {l : Launch} {e : Env} {s : State} {m : MethodId} {args : Array Value} {below : List Frame} {meth : Method} {c : Code} {A : Nat → Prop} {dC : Nat → ClassId} {dI : Nat → Nat → Nat} {cI cJ cZ : ClassId} {bM b0 b1 b2 b3 b4 b5 : Nat} (C0 : q_C p s m args meth c (dC, dI) (q_T cI cJ cZ) A RX7 wsX7_wonOf cX7_wonOf 5 (some .int)) {x1 : Int32} {x2 : Int32} {x3 : Int32} {x4 : Int32} {th : Int32} {tc : Int64} {mr : (Nat → Int32)} {pd : Int32} {mp : (Nat → Int32)} {ch : (Nat → Int64)} {la : (Nat → Int64)} {be : Int64} {se : (Nat → Int64)} {ta : (Nat → Int32)} {fs : Int32} {R : Int32} (hf : b_X7_wonOf_23 x1 x2 x3 x4 th tc mr pd mp ch la be se ta fs = some R) : ∀ (H : Heap) (locs : List Loc) (ls : Array Slot), va_P (dC, dI) vwCl [(bM, .inr (7, [.int th, .long tc, .ref b0, .int pd, .ref b1, .ref b2, .ref b3, .long be, .ref b4, .ref b5, .int fs])), (b0, .inl (cI, 7, .inl mr)), (b1, .inl (cI, 400, .inl mp)), (b2, .inl (cJ, 49, .inr (.inl ch))), (b3, .inl (cJ, 49, .inr (.inl la))), (b4, .inl (cJ, 128, .inr (.inl se))), (b5, .inl (cI, 13, .inl ta))] H → va_D A [(bM, .inr (7, [.int th, .long tc, .ref b0, .int pd, .ref b1, .ref b2, .ref b3, .long be, .ref b4, .ref b5, .int fs])), (b0, .inl (cI, 7, .inl mr)), (b1, .inl (cI, 400, .inl mp)), (b2, .inl (cJ, 49, .inr (.inl ch))), (b3, .inl (cJ, 49, .inr (.inl la))), (b4, .inl (cJ, 128, .inr (.inl se))), (b5, .inl (cI, 13, .inl ta))] → va_S A s.heap H locs → lv_has ls 5 [(1, .int x1), (2, .int x2), (3, .int x3), (4, .int x4)] → W p l e rmX7_wonOf s m args below meth c H locs 0 0 (MQ below (qI (dC, dI) (q_T cI cJ cZ) [(bM, .inr (7, [.int th, .long tc, .ref b0, .int pd, .ref b1, .ref b2, .ref b3, .long be, .ref b4, .ref b5, .int fs])), (b0, .inl (cI, 7, .inl mr)), (b1, .inl (cI, 400, .inl mp)), (b2, .inl (cJ, 49, .inr (.inl ch))), (b3, .inl (cJ, 49, .inr (.inl la))), (b4, .inl (cJ, 128, .inr (.inl se))), (b5, .inl (cI, 13, .inl ta))] R A) args s 0 0 A) (F0 m 23 ls []) := by
  obtain ⟨hx, hb, hml, hown, hts, hrt, hlk, hK, hX, hA⟩ := id C0
  intro H locs ls hP hD hS hl
  unfold b_X7_wonOf_23 at hf
  refine lv_iload_n hx hb dX7_wonOf_23 rfl (lv_at hl 2 rfl) ?_
  refine lv_iload hx hb dX7_wonOf_24 (lv_at hl 3 rfl) ?_
  refine lv_icmp_lt (tgt := 38) hx hb dX7_wonOf_26 (by decide) (fun hc13 => ?_) (fun hc13 => ?_)
  · have hf := q_if hf hc13
    exact B_X7_wonOf_38 C0 hf H locs ls hP hD hS hl
  · have hf := q_nif hf hc13
    refine lv_iload_n hx hb dX7_wonOf_29 rfl (lv_at hl 2 rfl) ?_
    refine lv_iload_n hx hb dX7_wonOf_30 rfl (lv_at hl 1 rfl) ?_
    refine lv_isub hx hb dX7_wonOf_31 ?_
    refine lv_iconst (v := 2) hx hb dX7_wonOf_32 (by decide) ?_
    refine lv_icmp_lt (tgt := 38) hx hb dX7_wonOf_33 (by decide) (fun hc14 => ?_) (fun hc14 => ?_)
    · have hf := q_if hf hc14
      exact B_X7_wonOf_38 C0 hf H locs ls hP hD hS hl
    · have hf := q_nif hf hc14
      refine lv_iconst (v := 2) hx hb dX7_wonOf_36 (by decide) ?_
      obtain rfl := Option.some.inj hf
      exact q_retI C0 hP hD hS dX7_wonOf_37
set_option maxHeartbeats 4000000 in
set_option maxRecDepth 100000 in
theorem B_X7_wonOf_0 {p : Program} {l : Launch} {e : Env} {s : State} {m : MethodId} {args : Array Value} {below : List Frame} {meth : Method} {c : Code} {A : Nat → Prop} {dC : Nat → ClassId} {dI : Nat → Nat → Nat} {cI cJ cZ : ClassId} {bM b0 b1 b2 b3 b4 b5 : Nat} (C0 : q_C p s m args meth c (dC, dI) (q_T cI cJ cZ) A RX7 wsX7_wonOf cX7_wonOf 5 (some .int)) {x1 : Int32} {x2 : Int32} {x3 : Int32} {th : Int32} {tc : Int64} {mr : (Nat → Int32)} {pd : Int32} {mp : (Nat → Int32)} {ch : (Nat → Int64)} {la : (Nat → Int64)} {be : Int64} {se : (Nat → Int64)} {ta : (Nat → Int32)} {fs : Int32} {R : Int32} (hf : f_X7_wonOf x1 x2 x3 th tc mr pd mp ch la be se ta fs = some R) : ∀ (H : Heap) (locs : List Loc) (ls : Array Slot), va_P (dC, dI) vwCl [(bM, .inr (7, [.int th, .long tc, .ref b0, .int pd, .ref b1, .ref b2, .ref b3, .long be, .ref b4, .ref b5, .int fs])), (b0, .inl (cI, 7, .inl mr)), (b1, .inl (cI, 400, .inl mp)), (b2, .inl (cJ, 49, .inr (.inl ch))), (b3, .inl (cJ, 49, .inr (.inl la))), (b4, .inl (cJ, 128, .inr (.inl se))), (b5, .inl (cI, 13, .inl ta))] H → va_D A [(bM, .inr (7, [.int th, .long tc, .ref b0, .int pd, .ref b1, .ref b2, .ref b3, .long be, .ref b4, .ref b5, .int fs])), (b0, .inl (cI, 7, .inl mr)), (b1, .inl (cI, 400, .inl mp)), (b2, .inl (cJ, 49, .inr (.inl ch))), (b3, .inl (cJ, 49, .inr (.inl la))), (b4, .inl (cJ, 128, .inr (.inl se))), (b5, .inl (cI, 13, .inl ta))] → va_S A s.heap H locs → lv_has ls 5 [(0, .ref bM), (1, .int x1), (2, .int x2), (3, .int x3)] → W p l e rmX7_wonOf s m args below meth c H locs 0 0 (MQ below (qI (dC, dI) (q_T cI cJ cZ) [(bM, .inr (7, [.int th, .long tc, .ref b0, .int pd, .ref b1, .ref b2, .ref b3, .long be, .ref b4, .ref b5, .int fs])), (b0, .inl (cI, 7, .inl mr)), (b1, .inl (cI, 400, .inl mp)), (b2, .inl (cJ, 49, .inr (.inl ch))), (b3, .inl (cJ, 49, .inr (.inl la))), (b4, .inl (cJ, 128, .inr (.inl se))), (b5, .inl (cI, 13, .inl ta))] R A) args s 0 0 A) (F0 m 0 ls []) := by
  obtain ⟨hx, hb, hml, hown, hts, hrt, hlk, hK, hX, hA⟩ := id C0
  intro H locs ls hP hD hS hl
  unfold f_X7_wonOf at hf
  refine lv_aload_n hx hb dX7_wonOf_0 rfl (lv_at hl 0 rfl) ?_
  refine q_get (TT := TX7) C0 in_X7_wonOf_X7 2 m_X7_wonOf_f7 hP 0 rfl rfl (by decide) rfl rfl dX7_wonOf_1 ?_
  refine lv_iconst (v := 2) hx hb dX7_wonOf_4 (by decide) ?_
  refine q_iald (v := mr 2) C0 hP 1 0 rfl rfl (by unfold vp_in; decide) rfl dX7_wonOf_5 ?_
  refine lv_istore (lv' := [(4, .int (mr 2)), (0, .ref bM), (1, .int x1), (2, .int x2), (3, .int x3)]) hx hb dX7_wonOf_6 hl (by decide) rfl (fun ls hl => ?_)
  refine lv_iload_n hx hb dX7_wonOf_8 rfl (lv_at hl 3 rfl) ?_
  refine lv_iload hx hb dX7_wonOf_9 (lv_at hl 0 rfl) ?_
  refine lv_icmp_lt (tgt := 23) hx hb dX7_wonOf_11 (by decide) (fun hc15 => ?_) (fun hc15 => ?_)
  · have hf := q_if hf hc15
    exact B_X7_wonOf_23 C0 hf H locs ls hP hD hS (lv_sub hl [2, 3, 4, 0] rfl)
  · have hf := q_nif hf hc15
    refine lv_iload_n hx hb dX7_wonOf_14 rfl (lv_at hl 3 rfl) ?_
    refine lv_iload_n hx hb dX7_wonOf_15 rfl (lv_at hl 4 rfl) ?_
    refine lv_isub hx hb dX7_wonOf_16 ?_
    refine lv_iconst (v := 2) hx hb dX7_wonOf_17 (by decide) ?_
    refine lv_icmp_lt (tgt := 23) hx hb dX7_wonOf_18 (by decide) (fun hc16 => ?_) (fun hc16 => ?_)
    · have hf := q_if hf hc16
      exact B_X7_wonOf_23 C0 hf H locs ls hP hD hS (lv_sub hl [2, 3, 4, 0] rfl)
    · have hf := q_nif hf hc16
      refine lv_iconst (v := 1) hx hb dX7_wonOf_21 (by decide) ?_
      obtain rfl := Option.some.inj hf
      exact q_retI C0 hP hD hS dX7_wonOf_22
set_option maxHeartbeats 4000000 in
set_option maxRecDepth 100000 in
theorem c_X7_wonOf {l : Launch} {dC : Nat → ClassId} {dI : Nat → Nat → Nat} {cI cJ cZ : ClassId} {bM b0 b1 b2 b3 b4 b5 : Nat} {x1 : Int32} {x2 : Int32} {x3 : Int32} {th : Int32} {tc : Int64} {mr : (Nat → Int32)} {pd : Int32} {mp : (Nat → Int32)} {ch : (Nat → Int64)} {la : (Nat → Int64)} {be : Int64} {se : (Nat → Int64)} {ta : (Nat → Int32)} {fs : Int32} {R : Int32} (hf : f_X7_wonOf x1 x2 x3 th tc mr pd mp ch la be se ta fs = some R) : q_M l yX7_wonOf wsX7_wonOf rmX7_wonOf (dC, dI) (q_T cI cJ cZ) [.ref bM, .int x1, .int x2, .int x3] [(bM, .inr (7, [.int th, .long tc, .ref b0, .int pd, .ref b1, .ref b2, .ref b3, .long be, .ref b4, .ref b5, .int fs])), (b0, .inl (cI, 7, .inl mr)), (b1, .inl (cI, 400, .inl mp)), (b2, .inl (cJ, 49, .inr (.inl ch))), (b3, .inl (cJ, 49, .inr (.inl la))), (b4, .inl (cJ, 128, .inr (.inl se))), (b5, .inl (cI, 13, .inl ta))] (qI (dC, dI) (q_T cI cJ cZ) [(bM, .inr (7, [.int th, .long tc, .ref b0, .int pd, .ref b1, .ref b2, .ref b3, .long be, .ref b4, .ref b5, .int fs])), (b0, .inl (cI, 7, .inl mr)), (b1, .inl (cI, 400, .inl mp)), (b2, .inl (cJ, 49, .inr (.inl ch))), (b3, .inl (cJ, 49, .inr (.inl la))), (b4, .inl (cJ, 128, .inr (.inl se))), (b5, .inl (cI, 13, .inl ta))] R) := by
  refine q_body (cc := cX7_wonOf) (maxL := 5) (ret := (some .int)) (by decide) rfl (Nat.le_of_ble_eq_true rfl) ?_
  intro p e s m args below meth c A C0 ls hP hD hS hl
  have hl : lv_has ls 5 [(0, .ref bM), (1, .int x1), (2, .int x2), (3, .int x3)] := hl
  exact B_X7_wonOf_0 C0 hf s.heap [] ls hP hD hS hl
/-! ## RungPlayModel.beginsGame -/
abbrev rmX7_beginsGame : Room := { frames := 0, cells := 0, slots := 0, locals := 0 }
theorem m_X7_beginsGame_f26 : Cond.fieldLink RX7 26 RX7 "told" "[I" ∈ wsX7_beginsGame := by decide +kernel
theorem in_X7_beginsGame_X7 : ∀ w ∈ wsX70, w ∈ wsX7_beginsGame := by decide +kernel
theorem m_X7_beginsGame_f7 : Cond.fieldLink RX7 7 RX7 "rules" "[I" ∈ wsX7_beginsGame := by decide +kernel
noncomputable def b_X7_beginsGame_25 (s0 : Int32) (s1 : Int32) (th : Int32) (tc : Int64) (mr : (Nat → Int32)) (pd : Int32) (mp : (Nat → Int32)) (ch : (Nat → Int64)) (la : (Nat → Int64)) (be : Int64) (se : (Nat → Int64)) (ta : (Nat → Int32)) (fs : Int32) : Option ((Nat → Int32)) :=
  (if s1 < 0 ∨ 13 ≤ Int32.toNatClampNeg s1 then none else (some (upd (upd ta (Int32.toNatClampNeg s1) s0) 1 0)))
noncomputable def f_X7_beginsGame (th : Int32) (tc : Int64) (mr : (Nat → Int32)) (pd : Int32) (mp : (Nat → Int32)) (ch : (Nat → Int64)) (la : (Nat → Int64)) (be : Int64) (se : (Nat → Int64)) (ta : (Nat → Int32)) (fs : Int32) : Option ((Nat → Int32)) :=
  (if (ta 6) = 0 then (b_X7_beginsGame_25 (mr 5) 0 th tc mr pd mp ch la be se ta fs) else (b_X7_beginsGame_25 0 0 th tc mr pd mp ch la be se ta fs))
set_option maxHeartbeats 4000000 in
set_option maxRecDepth 100000 in
theorem B_X7_beginsGame_25 {p : Program} {l : Launch} {e : Env} {s : State} {m : MethodId} {args : Array Value} {below : List Frame} {meth : Method} {c : Code} {A : Nat → Prop} {dC : Nat → ClassId} {dI : Nat → Nat → Nat} {cI cJ cZ : ClassId} {bM b0 b1 b2 b3 b4 b5 : Nat} (C0 : q_C p s m args meth c (dC, dI) (q_T cI cJ cZ) A RX7 wsX7_beginsGame cX7_beginsGame 1 none) {s0 : Int32} {s1 : Int32} {th : Int32} {tc : Int64} {mr : (Nat → Int32)} {pd : Int32} {mp : (Nat → Int32)} {ch : (Nat → Int64)} {la : (Nat → Int64)} {be : Int64} {se : (Nat → Int64)} {ta : (Nat → Int32)} {fs : Int32} {R : (Nat → Int32)} (hf : b_X7_beginsGame_25 s0 s1 th tc mr pd mp ch la be se ta fs = some R) : ∀ (H : Heap) (locs : List Loc) (ls : Array Slot), va_P (dC, dI) vwCl [(bM, .inr (7, [.int th, .long tc, .ref b0, .int pd, .ref b1, .ref b2, .ref b3, .long be, .ref b4, .ref b5, .int fs])), (b0, .inl (cI, 7, .inl mr)), (b1, .inl (cI, 400, .inl mp)), (b2, .inl (cJ, 49, .inr (.inl ch))), (b3, .inl (cJ, 49, .inr (.inl la))), (b4, .inl (cJ, 128, .inr (.inl se))), (b5, .inl (cI, 13, .inl ta))] H → va_D A [(bM, .inr (7, [.int th, .long tc, .ref b0, .int pd, .ref b1, .ref b2, .ref b3, .long be, .ref b4, .ref b5, .int fs])), (b0, .inl (cI, 7, .inl mr)), (b1, .inl (cI, 400, .inl mp)), (b2, .inl (cJ, 49, .inr (.inl ch))), (b3, .inl (cJ, 49, .inr (.inl la))), (b4, .inl (cJ, 128, .inr (.inl se))), (b5, .inl (cI, 13, .inl ta))] → va_S A s.heap H locs → lv_has ls 1 [(0, .ref bM)] → W p l e rmX7_beginsGame s m args below meth c H locs 0 0 (MQ below (qV (dC, dI) (q_T cI cJ cZ) [(bM, .inr (7, [.int th, .long tc, .ref b0, .int pd, .ref b1, .ref b2, .ref b3, .long be, .ref b4, .ref b5, .int fs])), (b0, .inl (cI, 7, .inl mr)), (b1, .inl (cI, 400, .inl mp)), (b2, .inl (cJ, 49, .inr (.inl ch))), (b3, .inl (cJ, 49, .inr (.inl la))), (b4, .inl (cJ, 128, .inr (.inl se))), (b5, .inl (cI, 13, .inl R))] A) args s 0 0 A) (F0 m 25 ls [.int s0, .int s1, .ref b5]) := by
  obtain ⟨hx, hb, hml, hown, hts, hrt, hlk, hK, hX, hA⟩ := id C0
  intro H locs ls hP hD hS hl
  unfold b_X7_beginsGame_25 at hf
  obtain ⟨hin1, hf⟩ := q_gd hf
  refine q_iast (g := upd ta (Int32.toNatClampNeg s1) s0) C0 hP hD hS 6 0 rfl rfl hin1 rfl dX7_beginsGame_25 (fun H locs hP hD hS => ?_)
  have hP : va_P (dC, dI) vwCl [(bM, .inr (7, [.int th, .long tc, .ref b0, .int pd, .ref b1, .ref b2, .ref b3, .long be, .ref b4, .ref b5, .int fs])), (b0, .inl (cI, 7, .inl mr)), (b1, .inl (cI, 400, .inl mp)), (b2, .inl (cJ, 49, .inr (.inl ch))), (b3, .inl (cJ, 49, .inr (.inl la))), (b4, .inl (cJ, 128, .inr (.inl se))), (b5, .inl (cI, 13, .inl (upd ta (Int32.toNatClampNeg s1) s0)))] H := hP
  have hD : va_D A [(bM, .inr (7, [.int th, .long tc, .ref b0, .int pd, .ref b1, .ref b2, .ref b3, .long be, .ref b4, .ref b5, .int fs])), (b0, .inl (cI, 7, .inl mr)), (b1, .inl (cI, 400, .inl mp)), (b2, .inl (cJ, 49, .inr (.inl ch))), (b3, .inl (cJ, 49, .inr (.inl la))), (b4, .inl (cJ, 128, .inr (.inl se))), (b5, .inl (cI, 13, .inl (upd ta (Int32.toNatClampNeg s1) s0)))] := hD
  refine lv_aload_n hx hb dX7_beginsGame_26 rfl (lv_at hl 0 rfl) ?_
  refine q_get (TT := TX7) C0 in_X7_beginsGame_X7 9 m_X7_beginsGame_f26 hP 0 rfl rfl (by decide) rfl rfl dX7_beginsGame_27 ?_
  refine lv_iconst (v := 1) hx hb dX7_beginsGame_30 (by decide) ?_
  refine lv_iconst (v := 0) hx hb dX7_beginsGame_31 (by decide) ?_
  refine q_iast (g := upd (upd ta (Int32.toNatClampNeg s1) s0) 1 0) C0 hP hD hS 6 0 rfl rfl (by unfold vp_in; decide) rfl dX7_beginsGame_32 (fun H locs hP hD hS => ?_)
  have hP : va_P (dC, dI) vwCl [(bM, .inr (7, [.int th, .long tc, .ref b0, .int pd, .ref b1, .ref b2, .ref b3, .long be, .ref b4, .ref b5, .int fs])), (b0, .inl (cI, 7, .inl mr)), (b1, .inl (cI, 400, .inl mp)), (b2, .inl (cJ, 49, .inr (.inl ch))), (b3, .inl (cJ, 49, .inr (.inl la))), (b4, .inl (cJ, 128, .inr (.inl se))), (b5, .inl (cI, 13, .inl (upd (upd ta (Int32.toNatClampNeg s1) s0) 1 0)))] H := hP
  have hD : va_D A [(bM, .inr (7, [.int th, .long tc, .ref b0, .int pd, .ref b1, .ref b2, .ref b3, .long be, .ref b4, .ref b5, .int fs])), (b0, .inl (cI, 7, .inl mr)), (b1, .inl (cI, 400, .inl mp)), (b2, .inl (cJ, 49, .inr (.inl ch))), (b3, .inl (cJ, 49, .inr (.inl la))), (b4, .inl (cJ, 128, .inr (.inl se))), (b5, .inl (cI, 13, .inl (upd (upd ta (Int32.toNatClampNeg s1) s0) 1 0)))] := hD
  obtain rfl := Option.some.inj hf
  exact q_retV C0 hP hD hS dX7_beginsGame_33
set_option maxHeartbeats 4000000 in
set_option maxRecDepth 100000 in
theorem B_X7_beginsGame_0 {p : Program} {l : Launch} {e : Env} {s : State} {m : MethodId} {args : Array Value} {below : List Frame} {meth : Method} {c : Code} {A : Nat → Prop} {dC : Nat → ClassId} {dI : Nat → Nat → Nat} {cI cJ cZ : ClassId} {bM b0 b1 b2 b3 b4 b5 : Nat} (C0 : q_C p s m args meth c (dC, dI) (q_T cI cJ cZ) A RX7 wsX7_beginsGame cX7_beginsGame 1 none) {th : Int32} {tc : Int64} {mr : (Nat → Int32)} {pd : Int32} {mp : (Nat → Int32)} {ch : (Nat → Int64)} {la : (Nat → Int64)} {be : Int64} {se : (Nat → Int64)} {ta : (Nat → Int32)} {fs : Int32} {R : (Nat → Int32)} (hf : f_X7_beginsGame th tc mr pd mp ch la be se ta fs = some R) : ∀ (H : Heap) (locs : List Loc) (ls : Array Slot), va_P (dC, dI) vwCl [(bM, .inr (7, [.int th, .long tc, .ref b0, .int pd, .ref b1, .ref b2, .ref b3, .long be, .ref b4, .ref b5, .int fs])), (b0, .inl (cI, 7, .inl mr)), (b1, .inl (cI, 400, .inl mp)), (b2, .inl (cJ, 49, .inr (.inl ch))), (b3, .inl (cJ, 49, .inr (.inl la))), (b4, .inl (cJ, 128, .inr (.inl se))), (b5, .inl (cI, 13, .inl ta))] H → va_D A [(bM, .inr (7, [.int th, .long tc, .ref b0, .int pd, .ref b1, .ref b2, .ref b3, .long be, .ref b4, .ref b5, .int fs])), (b0, .inl (cI, 7, .inl mr)), (b1, .inl (cI, 400, .inl mp)), (b2, .inl (cJ, 49, .inr (.inl ch))), (b3, .inl (cJ, 49, .inr (.inl la))), (b4, .inl (cJ, 128, .inr (.inl se))), (b5, .inl (cI, 13, .inl ta))] → va_S A s.heap H locs → lv_has ls 1 [(0, .ref bM)] → W p l e rmX7_beginsGame s m args below meth c H locs 0 0 (MQ below (qV (dC, dI) (q_T cI cJ cZ) [(bM, .inr (7, [.int th, .long tc, .ref b0, .int pd, .ref b1, .ref b2, .ref b3, .long be, .ref b4, .ref b5, .int fs])), (b0, .inl (cI, 7, .inl mr)), (b1, .inl (cI, 400, .inl mp)), (b2, .inl (cJ, 49, .inr (.inl ch))), (b3, .inl (cJ, 49, .inr (.inl la))), (b4, .inl (cJ, 128, .inr (.inl se))), (b5, .inl (cI, 13, .inl R))] A) args s 0 0 A) (F0 m 0 ls []) := by
  obtain ⟨hx, hb, hml, hown, hts, hrt, hlk, hK, hX, hA⟩ := id C0
  intro H locs ls hP hD hS hl
  unfold f_X7_beginsGame at hf
  refine lv_aload_n hx hb dX7_beginsGame_0 rfl (lv_at hl 0 rfl) ?_
  refine q_get (TT := TX7) C0 in_X7_beginsGame_X7 9 m_X7_beginsGame_f26 hP 0 rfl rfl (by decide) rfl rfl dX7_beginsGame_1 ?_
  refine lv_iconst (v := 0) hx hb dX7_beginsGame_4 (by decide) ?_
  refine lv_aload_n hx hb dX7_beginsGame_5 rfl (lv_at hl 0 rfl) ?_
  refine q_get (TT := TX7) C0 in_X7_beginsGame_X7 9 m_X7_beginsGame_f26 hP 0 rfl rfl (by decide) rfl rfl dX7_beginsGame_6 ?_
  refine lv_bipush (v := 6) hx hb dX7_beginsGame_9 (by decide) ?_
  refine q_iald (v := ta 6) C0 hP 6 0 rfl rfl (by unfold vp_in; decide) rfl dX7_beginsGame_11 ?_
  refine lv_if_ne (tgt := 24) hx hb dX7_beginsGame_12 (by decide) (fun hc2 => ?_) (fun hc2 => ?_)
  · have hf := q_nif hf hc2
    refine lv_iconst (v := 0) hx hb dX7_beginsGame_24 (by decide) ?_
    exact B_X7_beginsGame_25 C0 hf H locs ls hP hD hS hl
  · have hf := q_if hf hc2
    refine lv_aload_n hx hb dX7_beginsGame_15 rfl (lv_at hl 0 rfl) ?_
    refine q_get (TT := TX7) C0 in_X7_beginsGame_X7 2 m_X7_beginsGame_f7 hP 0 rfl rfl (by decide) rfl rfl dX7_beginsGame_16 ?_
    refine lv_iconst (v := 5) hx hb dX7_beginsGame_19 (by decide) ?_
    refine q_iald (v := mr 5) C0 hP 1 0 rfl rfl (by unfold vp_in; decide) rfl dX7_beginsGame_20 ?_
    refine lv_goto (tgt := 25) hx hb dX7_beginsGame_21 (by decide) ?_
    exact B_X7_beginsGame_25 C0 hf H locs ls hP hD hS hl
set_option maxHeartbeats 4000000 in
set_option maxRecDepth 100000 in
theorem c_X7_beginsGame {l : Launch} {dC : Nat → ClassId} {dI : Nat → Nat → Nat} {cI cJ cZ : ClassId} {bM b0 b1 b2 b3 b4 b5 : Nat} {th : Int32} {tc : Int64} {mr : (Nat → Int32)} {pd : Int32} {mp : (Nat → Int32)} {ch : (Nat → Int64)} {la : (Nat → Int64)} {be : Int64} {se : (Nat → Int64)} {ta : (Nat → Int32)} {fs : Int32} {R : (Nat → Int32)} (hf : f_X7_beginsGame th tc mr pd mp ch la be se ta fs = some R) : q_M l yX7_beginsGame wsX7_beginsGame rmX7_beginsGame (dC, dI) (q_T cI cJ cZ) [.ref bM] [(bM, .inr (7, [.int th, .long tc, .ref b0, .int pd, .ref b1, .ref b2, .ref b3, .long be, .ref b4, .ref b5, .int fs])), (b0, .inl (cI, 7, .inl mr)), (b1, .inl (cI, 400, .inl mp)), (b2, .inl (cJ, 49, .inr (.inl ch))), (b3, .inl (cJ, 49, .inr (.inl la))), (b4, .inl (cJ, 128, .inr (.inl se))), (b5, .inl (cI, 13, .inl ta))] (qV (dC, dI) (q_T cI cJ cZ) [(bM, .inr (7, [.int th, .long tc, .ref b0, .int pd, .ref b1, .ref b2, .ref b3, .long be, .ref b4, .ref b5, .int fs])), (b0, .inl (cI, 7, .inl mr)), (b1, .inl (cI, 400, .inl mp)), (b2, .inl (cJ, 49, .inr (.inl ch))), (b3, .inl (cJ, 49, .inr (.inl la))), (b4, .inl (cJ, 128, .inr (.inl se))), (b5, .inl (cI, 13, .inl R))]) := by
  refine q_body (cc := cX7_beginsGame) (maxL := 1) (ret := none) (by decide) rfl (Nat.le_of_ble_eq_true rfl) ?_
  intro p e s m args below meth c A C0 ls hP hD hS hl
  have hl : lv_has ls 1 [(0, .ref bM)] := hl
  exact B_X7_beginsGame_0 C0 hf s.heap [] ls hP hD hS hl
/-! ## RungPlayModel.winsGame -/
abbrev rmX7_winsGame : Room := { frames := 1, cells := 0, slots := 0, locals := 20 }
theorem m_X7_winsGame_f26 : Cond.fieldLink RX7 26 RX7 "told" "[I" ∈ wsX7_winsGame := by decide +kernel
theorem in_X7_winsGame_X7 : ∀ w ∈ wsX70, w ∈ wsX7_winsGame := by decide +kernel
theorem m_X7_winsGame_f103 : Cond.fieldLink RX7 103 RX7 "firstServer" "I" ∈ wsX7_winsGame := by decide +kernel
theorem m_X7_winsGame_f7 : Cond.fieldLink RX7 7 RX7 "rules" "[I" ∈ wsX7_winsGame := by decide +kernel
noncomputable def b_X7_winsGame_156 (th : Int32) (tc : Int64) (mr : (Nat → Int32)) (pd : Int32) (mp : (Nat → Int32)) (ch : (Nat → Int64)) (la : (Nat → Int64)) (be : Int64) (se : (Nat → Int64)) (ta : (Nat → Int32)) (fs : Int32) : Option ((Nat → Int32) × Int32) :=
  (q_b1 (f_X7_beginsGame th tc mr pd mp ch la be se ta fs) (fun ta1 => (some (ta1, fs))))
noncomputable def b_X7_winsGame_155 (s0 : Int32) (s1 : Int32) (th : Int32) (tc : Int64) (mr : (Nat → Int32)) (pd : Int32) (mp : (Nat → Int32)) (ch : (Nat → Int64)) (la : (Nat → Int64)) (be : Int64) (se : (Nat → Int64)) (ta : (Nat → Int32)) (fs : Int32) : Option ((Nat → Int32) × Int32) :=
  (if s1 < 0 ∨ 13 ≤ Int32.toNatClampNeg s1 then none else (b_X7_winsGame_156 th tc mr pd mp ch la be se (upd ta (Int32.toNatClampNeg s1) s0) fs))
noncomputable def b_X7_winsGame_79 (x1 : Int32) (th : Int32) (tc : Int64) (mr : (Nat → Int32)) (pd : Int32) (mp : (Nat → Int32)) (ch : (Nat → Int64)) (la : (Nat → Int64)) (be : Int64) (se : (Nat → Int64)) (ta : (Nat → Int32)) (fs : Int32) : Option ((Nat → Int32) × Int32) :=
  (if 4 + x1 < 0 ∨ 13 ≤ Int32.toNatClampNeg (4 + x1) then none else (if 4 + x1 < 0 ∨ 13 ≤ Int32.toNatClampNeg (4 + x1) then none else (if 4 + x1 < 0 ∨ 13 ≤ Int32.toNatClampNeg (4 + x1) then none else (if ((upd (upd (upd (upd ta 2 0) 3 0) (Int32.toNatClampNeg (4 + x1)) (((upd (upd ta 2 0) 3 0) (Int32.toNatClampNeg (4 + x1))) + 1)) 6 (1 - fs)) (Int32.toNatClampNeg (4 + x1))) = (mr 4) then (b_X7_winsGame_155 x1 12 th tc mr pd mp ch la be se (upd (upd (upd (upd ta 2 0) 3 0) (Int32.toNatClampNeg (4 + x1)) (((upd (upd ta 2 0) 3 0) (Int32.toNatClampNeg (4 + x1))) + 1)) 6 (1 - fs)) (1 - fs)) else (b_X7_winsGame_155 (-9) 12 th tc mr pd mp ch la be se (upd (upd (upd (upd ta 2 0) 3 0) (Int32.toNatClampNeg (4 + x1)) (((upd (upd ta 2 0) 3 0) (Int32.toNatClampNeg (4 + x1))) + 1)) 6 (1 - fs)) (1 - fs))))))
noncomputable def b_X7_winsGame_66 (x1 : Int32) (x2 : Int32) (x3 : Int32) (x4 : Int32) (th : Int32) (tc : Int64) (mr : (Nat → Int32)) (pd : Int32) (mp : (Nat → Int32)) (ch : (Nat → Int64)) (la : (Nat → Int64)) (be : Int64) (se : (Nat → Int64)) (ta : (Nat → Int32)) (fs : Int32) : Option ((Nat → Int32) × Int32) :=
  (if x3 = (x2 + 1) then (if x4 = x2 then (b_X7_winsGame_79 x1 th tc mr pd mp ch la be se ta fs) else (b_X7_winsGame_156 th tc mr pd mp ch la be se ta fs)) else (b_X7_winsGame_156 th tc mr pd mp ch la be se ta fs))
noncomputable def f_X7_winsGame (x1 : Int32) (th : Int32) (tc : Int64) (mr : (Nat → Int32)) (pd : Int32) (mp : (Nat → Int32)) (ch : (Nat → Int64)) (la : (Nat → Int64)) (be : Int64) (se : (Nat → Int64)) (ta : (Nat → Int32)) (fs : Int32) : Option ((Nat → Int32) × Int32) :=
  (if 2 + x1 < 0 ∨ 13 ≤ Int32.toNatClampNeg (2 + x1) then none else (if 3 - x1 < 0 ∨ 13 ≤ Int32.toNatClampNeg (3 - x1) then none else (if 2 + x1 < 0 ∨ 13 ≤ Int32.toNatClampNeg (2 + x1) then none else (if ((ta (Int32.toNatClampNeg (2 + x1))) + 1) < (mr 3) then (b_X7_winsGame_66 x1 (mr 3) ((ta (Int32.toNatClampNeg (2 + x1))) + 1) (ta (Int32.toNatClampNeg (3 - x1))) th tc mr pd mp ch la be se (upd (upd ta (Int32.toNatClampNeg (2 + x1)) ((ta (Int32.toNatClampNeg (2 + x1))) + 1)) 6 (1 - ((upd ta (Int32.toNatClampNeg (2 + x1)) ((ta (Int32.toNatClampNeg (2 + x1))) + 1)) 6))) fs) else (if 2 ≤ (((ta (Int32.toNatClampNeg (2 + x1))) + 1) - (ta (Int32.toNatClampNeg (3 - x1)))) then (b_X7_winsGame_79 x1 th tc mr pd mp ch la be se (upd (upd ta (Int32.toNatClampNeg (2 + x1)) ((ta (Int32.toNatClampNeg (2 + x1))) + 1)) 6 (1 - ((upd ta (Int32.toNatClampNeg (2 + x1)) ((ta (Int32.toNatClampNeg (2 + x1))) + 1)) 6))) fs) else (b_X7_winsGame_66 x1 (mr 3) ((ta (Int32.toNatClampNeg (2 + x1))) + 1) (ta (Int32.toNatClampNeg (3 - x1))) th tc mr pd mp ch la be se (upd (upd ta (Int32.toNatClampNeg (2 + x1)) ((ta (Int32.toNatClampNeg (2 + x1))) + 1)) 6 (1 - ((upd ta (Int32.toNatClampNeg (2 + x1)) ((ta (Int32.toNatClampNeg (2 + x1))) + 1)) 6))) fs))))))
set_option maxHeartbeats 4000000 in
set_option maxRecDepth 100000 in
theorem B_X7_winsGame_156 {p : Program} {l : Launch} {e : Env} {s : State} {m : MethodId} {args : Array Value} {below : List Frame} {meth : Method} {c : Code} {A : Nat → Prop} {dC : Nat → ClassId} {dI : Nat → Nat → Nat} {cI cJ cZ : ClassId} {bM b0 b1 b2 b3 b4 b5 : Nat} (C0 : q_C p s m args meth c (dC, dI) (q_T cI cJ cZ) A RX7 wsX7_winsGame cX7_winsGame 5 none) {th : Int32} {tc : Int64} {mr : (Nat → Int32)} {pd : Int32} {mp : (Nat → Int32)} {ch : (Nat → Int64)} {la : (Nat → Int64)} {be : Int64} {se : (Nat → Int64)} {ta : (Nat → Int32)} {fs : Int32} {R : (Nat → Int32) × Int32} (hf : b_X7_winsGame_156 th tc mr pd mp ch la be se ta fs = some R) : ∀ (H : Heap) (locs : List Loc) (ls : Array Slot), va_P (dC, dI) vwCl [(bM, .inr (7, [.int th, .long tc, .ref b0, .int pd, .ref b1, .ref b2, .ref b3, .long be, .ref b4, .ref b5, .int fs])), (b0, .inl (cI, 7, .inl mr)), (b1, .inl (cI, 400, .inl mp)), (b2, .inl (cJ, 49, .inr (.inl ch))), (b3, .inl (cJ, 49, .inr (.inl la))), (b4, .inl (cJ, 128, .inr (.inl se))), (b5, .inl (cI, 13, .inl ta))] H → va_D A [(bM, .inr (7, [.int th, .long tc, .ref b0, .int pd, .ref b1, .ref b2, .ref b3, .long be, .ref b4, .ref b5, .int fs])), (b0, .inl (cI, 7, .inl mr)), (b1, .inl (cI, 400, .inl mp)), (b2, .inl (cJ, 49, .inr (.inl ch))), (b3, .inl (cJ, 49, .inr (.inl la))), (b4, .inl (cJ, 128, .inr (.inl se))), (b5, .inl (cI, 13, .inl ta))] → va_S A s.heap H locs → lv_has ls 5 [(0, .ref bM)] → W p l e rmX7_winsGame s m args below meth c H locs 0 0 (MQ below (qV (dC, dI) (q_T cI cJ cZ) [(bM, .inr (7, [.int th, .long tc, .ref b0, .int pd, .ref b1, .ref b2, .ref b3, .long be, .ref b4, .ref b5, .int R.2])), (b0, .inl (cI, 7, .inl mr)), (b1, .inl (cI, 400, .inl mp)), (b2, .inl (cJ, 49, .inr (.inl ch))), (b3, .inl (cJ, 49, .inr (.inl la))), (b4, .inl (cJ, 128, .inr (.inl se))), (b5, .inl (cI, 13, .inl R.1))] A) args s 0 0 A) (F0 m 156 ls []) := by
  obtain ⟨hx, hb, hml, hown, hts, hrt, hlk, hK, hX, hA⟩ := id C0
  intro H locs ls hP hD hS hl
  unfold b_X7_winsGame_156 at hf
  refine lv_aload_n hx hb dX7_winsGame_156 rfl (lv_at hl 0 rfl) ?_
  obtain ⟨ta1, hg2, hf⟩ := q_e1 hf
  refine q_endV (wc := [(bM, .inr (7, [.int th, .long tc, .ref b0, .int pd, .ref b1, .ref b2, .ref b3, .long be, .ref b4, .ref b5, .int fs])), (b0, .inl (cI, 7, .inl mr)), (b1, .inl (cI, 400, .inl mp)), (b2, .inl (cJ, 49, .inr (.inl ch))), (b3, .inl (cJ, 49, .inr (.inl la))), (b4, .inl (cJ, 128, .inr (.inl se))), (b5, .inl (cI, 13, .inl ta))]) (wr := []) (w1 := [(bM, .inr (7, [.int th, .long tc, .ref b0, .int pd, .ref b1, .ref b2, .ref b3, .long be, .ref b4, .ref b5, .int fs])), (b0, .inl (cI, 7, .inl mr)), (b1, .inl (cI, 400, .inl mp)), (b2, .inl (cJ, 49, .inr (.inl ch))), (b3, .inl (cJ, 49, .inr (.inl la))), (b4, .inl (cJ, 128, .inr (.inl se))), (b5, .inl (cI, 13, .inl ta1))]) C0 hP hD hS [0, 1, 2, 3, 4, 5, 6] [] rfl rfl (by decide) (by decide) (q_runV (TT := TX7) (N := 11) (ci := 7) (q0 := 0) C0 (c_X7_beginsGame (l := l) hg2) (cwV 0 hts gX7_winsGame_X7_beginsGame rfl rfl rfl (by decide +kernel) ⟨Nat.le_of_ble_eq_true rfl, Nat.le_of_ble_eq_true rfl⟩) hP hD hS [0, 1, 2, 3, 4, 5, 6] rfl (by decide) rfl rfl rfl rfl hl.1 (Nat.le_of_ble_eq_true rfl) dX7_winsGame_157) (fun H locs hP hD hS => ?_)
  have hP : va_P (dC, dI) vwCl [(bM, .inr (7, [.int th, .long tc, .ref b0, .int pd, .ref b1, .ref b2, .ref b3, .long be, .ref b4, .ref b5, .int fs])), (b0, .inl (cI, 7, .inl mr)), (b1, .inl (cI, 400, .inl mp)), (b2, .inl (cJ, 49, .inr (.inl ch))), (b3, .inl (cJ, 49, .inr (.inl la))), (b4, .inl (cJ, 128, .inr (.inl se))), (b5, .inl (cI, 13, .inl ta1))] H := hP
  have hD : va_D A [(bM, .inr (7, [.int th, .long tc, .ref b0, .int pd, .ref b1, .ref b2, .ref b3, .long be, .ref b4, .ref b5, .int fs])), (b0, .inl (cI, 7, .inl mr)), (b1, .inl (cI, 400, .inl mp)), (b2, .inl (cJ, 49, .inr (.inl ch))), (b3, .inl (cJ, 49, .inr (.inl la))), (b4, .inl (cJ, 128, .inr (.inl se))), (b5, .inl (cI, 13, .inl ta1))] := hD
  obtain rfl := Option.some.inj hf
  exact q_retV C0 hP hD hS dX7_winsGame_160
set_option maxHeartbeats 4000000 in
set_option maxRecDepth 100000 in
theorem B_X7_winsGame_155 {p : Program} {l : Launch} {e : Env} {s : State} {m : MethodId} {args : Array Value} {below : List Frame} {meth : Method} {c : Code} {A : Nat → Prop} {dC : Nat → ClassId} {dI : Nat → Nat → Nat} {cI cJ cZ : ClassId} {bM b0 b1 b2 b3 b4 b5 : Nat} (C0 : q_C p s m args meth c (dC, dI) (q_T cI cJ cZ) A RX7 wsX7_winsGame cX7_winsGame 5 none) {s0 : Int32} {s1 : Int32} {th : Int32} {tc : Int64} {mr : (Nat → Int32)} {pd : Int32} {mp : (Nat → Int32)} {ch : (Nat → Int64)} {la : (Nat → Int64)} {be : Int64} {se : (Nat → Int64)} {ta : (Nat → Int32)} {fs : Int32} {R : (Nat → Int32) × Int32} (hf : b_X7_winsGame_155 s0 s1 th tc mr pd mp ch la be se ta fs = some R) : ∀ (H : Heap) (locs : List Loc) (ls : Array Slot), va_P (dC, dI) vwCl [(bM, .inr (7, [.int th, .long tc, .ref b0, .int pd, .ref b1, .ref b2, .ref b3, .long be, .ref b4, .ref b5, .int fs])), (b0, .inl (cI, 7, .inl mr)), (b1, .inl (cI, 400, .inl mp)), (b2, .inl (cJ, 49, .inr (.inl ch))), (b3, .inl (cJ, 49, .inr (.inl la))), (b4, .inl (cJ, 128, .inr (.inl se))), (b5, .inl (cI, 13, .inl ta))] H → va_D A [(bM, .inr (7, [.int th, .long tc, .ref b0, .int pd, .ref b1, .ref b2, .ref b3, .long be, .ref b4, .ref b5, .int fs])), (b0, .inl (cI, 7, .inl mr)), (b1, .inl (cI, 400, .inl mp)), (b2, .inl (cJ, 49, .inr (.inl ch))), (b3, .inl (cJ, 49, .inr (.inl la))), (b4, .inl (cJ, 128, .inr (.inl se))), (b5, .inl (cI, 13, .inl ta))] → va_S A s.heap H locs → lv_has ls 5 [(0, .ref bM)] → W p l e rmX7_winsGame s m args below meth c H locs 0 0 (MQ below (qV (dC, dI) (q_T cI cJ cZ) [(bM, .inr (7, [.int th, .long tc, .ref b0, .int pd, .ref b1, .ref b2, .ref b3, .long be, .ref b4, .ref b5, .int R.2])), (b0, .inl (cI, 7, .inl mr)), (b1, .inl (cI, 400, .inl mp)), (b2, .inl (cJ, 49, .inr (.inl ch))), (b3, .inl (cJ, 49, .inr (.inl la))), (b4, .inl (cJ, 128, .inr (.inl se))), (b5, .inl (cI, 13, .inl R.1))] A) args s 0 0 A) (F0 m 155 ls [.int s0, .int s1, .ref b5]) := by
  obtain ⟨hx, hb, hml, hown, hts, hrt, hlk, hK, hX, hA⟩ := id C0
  intro H locs ls hP hD hS hl
  unfold b_X7_winsGame_155 at hf
  obtain ⟨hin3, hf⟩ := q_gd hf
  refine q_iast (g := upd ta (Int32.toNatClampNeg s1) s0) C0 hP hD hS 6 0 rfl rfl hin3 rfl dX7_winsGame_155 (fun H locs hP hD hS => ?_)
  have hP : va_P (dC, dI) vwCl [(bM, .inr (7, [.int th, .long tc, .ref b0, .int pd, .ref b1, .ref b2, .ref b3, .long be, .ref b4, .ref b5, .int fs])), (b0, .inl (cI, 7, .inl mr)), (b1, .inl (cI, 400, .inl mp)), (b2, .inl (cJ, 49, .inr (.inl ch))), (b3, .inl (cJ, 49, .inr (.inl la))), (b4, .inl (cJ, 128, .inr (.inl se))), (b5, .inl (cI, 13, .inl (upd ta (Int32.toNatClampNeg s1) s0)))] H := hP
  have hD : va_D A [(bM, .inr (7, [.int th, .long tc, .ref b0, .int pd, .ref b1, .ref b2, .ref b3, .long be, .ref b4, .ref b5, .int fs])), (b0, .inl (cI, 7, .inl mr)), (b1, .inl (cI, 400, .inl mp)), (b2, .inl (cJ, 49, .inr (.inl ch))), (b3, .inl (cJ, 49, .inr (.inl la))), (b4, .inl (cJ, 128, .inr (.inl se))), (b5, .inl (cI, 13, .inl (upd ta (Int32.toNatClampNeg s1) s0)))] := hD
  exact B_X7_winsGame_156 C0 hf H locs ls hP hD hS hl
set_option maxHeartbeats 4000000 in
set_option maxRecDepth 100000 in
theorem B_X7_winsGame_79 {p : Program} {l : Launch} {e : Env} {s : State} {m : MethodId} {args : Array Value} {below : List Frame} {meth : Method} {c : Code} {A : Nat → Prop} {dC : Nat → ClassId} {dI : Nat → Nat → Nat} {cI cJ cZ : ClassId} {bM b0 b1 b2 b3 b4 b5 : Nat} (C0 : q_C p s m args meth c (dC, dI) (q_T cI cJ cZ) A RX7 wsX7_winsGame cX7_winsGame 5 none) {x1 : Int32} {th : Int32} {tc : Int64} {mr : (Nat → Int32)} {pd : Int32} {mp : (Nat → Int32)} {ch : (Nat → Int64)} {la : (Nat → Int64)} {be : Int64} {se : (Nat → Int64)} {ta : (Nat → Int32)} {fs : Int32} {R : (Nat → Int32) × Int32} (hf : b_X7_winsGame_79 x1 th tc mr pd mp ch la be se ta fs = some R) : ∀ (H : Heap) (locs : List Loc) (ls : Array Slot), va_P (dC, dI) vwCl [(bM, .inr (7, [.int th, .long tc, .ref b0, .int pd, .ref b1, .ref b2, .ref b3, .long be, .ref b4, .ref b5, .int fs])), (b0, .inl (cI, 7, .inl mr)), (b1, .inl (cI, 400, .inl mp)), (b2, .inl (cJ, 49, .inr (.inl ch))), (b3, .inl (cJ, 49, .inr (.inl la))), (b4, .inl (cJ, 128, .inr (.inl se))), (b5, .inl (cI, 13, .inl ta))] H → va_D A [(bM, .inr (7, [.int th, .long tc, .ref b0, .int pd, .ref b1, .ref b2, .ref b3, .long be, .ref b4, .ref b5, .int fs])), (b0, .inl (cI, 7, .inl mr)), (b1, .inl (cI, 400, .inl mp)), (b2, .inl (cJ, 49, .inr (.inl ch))), (b3, .inl (cJ, 49, .inr (.inl la))), (b4, .inl (cJ, 128, .inr (.inl se))), (b5, .inl (cI, 13, .inl ta))] → va_S A s.heap H locs → lv_has ls 5 [(0, .ref bM), (1, .int x1)] → W p l e rmX7_winsGame s m args below meth c H locs 0 0 (MQ below (qV (dC, dI) (q_T cI cJ cZ) [(bM, .inr (7, [.int th, .long tc, .ref b0, .int pd, .ref b1, .ref b2, .ref b3, .long be, .ref b4, .ref b5, .int R.2])), (b0, .inl (cI, 7, .inl mr)), (b1, .inl (cI, 400, .inl mp)), (b2, .inl (cJ, 49, .inr (.inl ch))), (b3, .inl (cJ, 49, .inr (.inl la))), (b4, .inl (cJ, 128, .inr (.inl se))), (b5, .inl (cI, 13, .inl R.1))] A) args s 0 0 A) (F0 m 79 ls []) := by
  obtain ⟨hx, hb, hml, hown, hts, hrt, hlk, hK, hX, hA⟩ := id C0
  intro H locs ls hP hD hS hl
  unfold b_X7_winsGame_79 at hf
  refine lv_aload_n hx hb dX7_winsGame_79 rfl (lv_at hl 0 rfl) ?_
  refine q_get (TT := TX7) C0 in_X7_winsGame_X7 9 m_X7_winsGame_f26 hP 0 rfl rfl (by decide) rfl rfl dX7_winsGame_80 ?_
  refine lv_iconst (v := 2) hx hb dX7_winsGame_83 (by decide) ?_
  refine lv_iconst (v := 0) hx hb dX7_winsGame_84 (by decide) ?_
  refine q_iast (g := upd ta 2 0) C0 hP hD hS 6 0 rfl rfl (by unfold vp_in; decide) rfl dX7_winsGame_85 (fun H locs hP hD hS => ?_)
  have hP : va_P (dC, dI) vwCl [(bM, .inr (7, [.int th, .long tc, .ref b0, .int pd, .ref b1, .ref b2, .ref b3, .long be, .ref b4, .ref b5, .int fs])), (b0, .inl (cI, 7, .inl mr)), (b1, .inl (cI, 400, .inl mp)), (b2, .inl (cJ, 49, .inr (.inl ch))), (b3, .inl (cJ, 49, .inr (.inl la))), (b4, .inl (cJ, 128, .inr (.inl se))), (b5, .inl (cI, 13, .inl (upd ta 2 0)))] H := hP
  have hD : va_D A [(bM, .inr (7, [.int th, .long tc, .ref b0, .int pd, .ref b1, .ref b2, .ref b3, .long be, .ref b4, .ref b5, .int fs])), (b0, .inl (cI, 7, .inl mr)), (b1, .inl (cI, 400, .inl mp)), (b2, .inl (cJ, 49, .inr (.inl ch))), (b3, .inl (cJ, 49, .inr (.inl la))), (b4, .inl (cJ, 128, .inr (.inl se))), (b5, .inl (cI, 13, .inl (upd ta 2 0)))] := hD
  refine lv_aload_n hx hb dX7_winsGame_86 rfl (lv_at hl 0 rfl) ?_
  refine q_get (TT := TX7) C0 in_X7_winsGame_X7 9 m_X7_winsGame_f26 hP 0 rfl rfl (by decide) rfl rfl dX7_winsGame_87 ?_
  refine lv_iconst (v := 3) hx hb dX7_winsGame_90 (by decide) ?_
  refine lv_iconst (v := 0) hx hb dX7_winsGame_91 (by decide) ?_
  refine q_iast (g := upd (upd ta 2 0) 3 0) C0 hP hD hS 6 0 rfl rfl (by unfold vp_in; decide) rfl dX7_winsGame_92 (fun H locs hP hD hS => ?_)
  have hP : va_P (dC, dI) vwCl [(bM, .inr (7, [.int th, .long tc, .ref b0, .int pd, .ref b1, .ref b2, .ref b3, .long be, .ref b4, .ref b5, .int fs])), (b0, .inl (cI, 7, .inl mr)), (b1, .inl (cI, 400, .inl mp)), (b2, .inl (cJ, 49, .inr (.inl ch))), (b3, .inl (cJ, 49, .inr (.inl la))), (b4, .inl (cJ, 128, .inr (.inl se))), (b5, .inl (cI, 13, .inl (upd (upd ta 2 0) 3 0)))] H := hP
  have hD : va_D A [(bM, .inr (7, [.int th, .long tc, .ref b0, .int pd, .ref b1, .ref b2, .ref b3, .long be, .ref b4, .ref b5, .int fs])), (b0, .inl (cI, 7, .inl mr)), (b1, .inl (cI, 400, .inl mp)), (b2, .inl (cJ, 49, .inr (.inl ch))), (b3, .inl (cJ, 49, .inr (.inl la))), (b4, .inl (cJ, 128, .inr (.inl se))), (b5, .inl (cI, 13, .inl (upd (upd ta 2 0) 3 0)))] := hD
  refine lv_aload_n hx hb dX7_winsGame_93 rfl (lv_at hl 0 rfl) ?_
  refine q_get (TT := TX7) C0 in_X7_winsGame_X7 9 m_X7_winsGame_f26 hP 0 rfl rfl (by decide) rfl rfl dX7_winsGame_94 ?_
  refine lv_iconst (v := 4) hx hb dX7_winsGame_97 (by decide) ?_
  refine lv_iload_n hx hb dX7_winsGame_98 rfl (lv_at hl 1 rfl) ?_
  refine lv_iadd hx hb dX7_winsGame_99 ?_
  refine lv_dup2_11 hx hb dX7_winsGame_100 rfl rfl ?_
  obtain ⟨hin4, hf⟩ := q_gd hf
  refine q_iald (v := (upd (upd ta 2 0) 3 0) (Int32.toNatClampNeg (4 + x1))) C0 hP 6 0 rfl rfl hin4 rfl dX7_winsGame_101 ?_
  refine lv_iconst (v := 1) hx hb dX7_winsGame_102 (by decide) ?_
  refine lv_iadd hx hb dX7_winsGame_103 ?_
  obtain ⟨hin5, hf⟩ := q_gd hf
  refine q_iast (g := upd (upd (upd ta 2 0) 3 0) (Int32.toNatClampNeg (4 + x1)) (((upd (upd ta 2 0) 3 0) (Int32.toNatClampNeg (4 + x1))) + 1)) C0 hP hD hS 6 0 rfl rfl hin5 rfl dX7_winsGame_104 (fun H locs hP hD hS => ?_)
  have hP : va_P (dC, dI) vwCl [(bM, .inr (7, [.int th, .long tc, .ref b0, .int pd, .ref b1, .ref b2, .ref b3, .long be, .ref b4, .ref b5, .int fs])), (b0, .inl (cI, 7, .inl mr)), (b1, .inl (cI, 400, .inl mp)), (b2, .inl (cJ, 49, .inr (.inl ch))), (b3, .inl (cJ, 49, .inr (.inl la))), (b4, .inl (cJ, 128, .inr (.inl se))), (b5, .inl (cI, 13, .inl (upd (upd (upd ta 2 0) 3 0) (Int32.toNatClampNeg (4 + x1)) (((upd (upd ta 2 0) 3 0) (Int32.toNatClampNeg (4 + x1))) + 1))))] H := hP
  have hD : va_D A [(bM, .inr (7, [.int th, .long tc, .ref b0, .int pd, .ref b1, .ref b2, .ref b3, .long be, .ref b4, .ref b5, .int fs])), (b0, .inl (cI, 7, .inl mr)), (b1, .inl (cI, 400, .inl mp)), (b2, .inl (cJ, 49, .inr (.inl ch))), (b3, .inl (cJ, 49, .inr (.inl la))), (b4, .inl (cJ, 128, .inr (.inl se))), (b5, .inl (cI, 13, .inl (upd (upd (upd ta 2 0) 3 0) (Int32.toNatClampNeg (4 + x1)) (((upd (upd ta 2 0) 3 0) (Int32.toNatClampNeg (4 + x1))) + 1))))] := hD
  refine lv_aload_n hx hb dX7_winsGame_105 rfl (lv_at hl 0 rfl) ?_
  refine lv_iconst (v := 1) hx hb dX7_winsGame_106 (by decide) ?_
  refine lv_aload_n hx hb dX7_winsGame_107 rfl (lv_at hl 0 rfl) ?_
  refine q_get (TT := TX7) C0 in_X7_winsGame_X7 10 m_X7_winsGame_f103 hP 0 rfl rfl (by decide) rfl rfl dX7_winsGame_108 ?_
  refine lv_isub hx hb dX7_winsGame_111 ?_
  refine q_put (ty := .int) (TT := TX7) C0 in_X7_winsGame_X7 tyX7 tyX7_ok nmX7 10 m_X7_winsGame_f103 hP hD hS 0 rfl rfl (by decide) rfl rfl (by decide +kernel) rfl rfl (Nat.le_of_ble_eq_true rfl) dX7_winsGame_112 (fun H locs hP hD hS => ?_)
  have hP : va_P (dC, dI) vwCl [(bM, .inr (7, [.int th, .long tc, .ref b0, .int pd, .ref b1, .ref b2, .ref b3, .long be, .ref b4, .ref b5, .int (1 - fs)])), (b0, .inl (cI, 7, .inl mr)), (b1, .inl (cI, 400, .inl mp)), (b2, .inl (cJ, 49, .inr (.inl ch))), (b3, .inl (cJ, 49, .inr (.inl la))), (b4, .inl (cJ, 128, .inr (.inl se))), (b5, .inl (cI, 13, .inl (upd (upd (upd ta 2 0) 3 0) (Int32.toNatClampNeg (4 + x1)) (((upd (upd ta 2 0) 3 0) (Int32.toNatClampNeg (4 + x1))) + 1))))] H := hP
  have hD : va_D A [(bM, .inr (7, [.int th, .long tc, .ref b0, .int pd, .ref b1, .ref b2, .ref b3, .long be, .ref b4, .ref b5, .int (1 - fs)])), (b0, .inl (cI, 7, .inl mr)), (b1, .inl (cI, 400, .inl mp)), (b2, .inl (cJ, 49, .inr (.inl ch))), (b3, .inl (cJ, 49, .inr (.inl la))), (b4, .inl (cJ, 128, .inr (.inl se))), (b5, .inl (cI, 13, .inl (upd (upd (upd ta 2 0) 3 0) (Int32.toNatClampNeg (4 + x1)) (((upd (upd ta 2 0) 3 0) (Int32.toNatClampNeg (4 + x1))) + 1))))] := hD
  refine lv_aload_n hx hb dX7_winsGame_115 rfl (lv_at hl 0 rfl) ?_
  refine q_get (TT := TX7) C0 in_X7_winsGame_X7 9 m_X7_winsGame_f26 hP 0 rfl rfl (by decide) rfl rfl dX7_winsGame_116 ?_
  refine lv_bipush (v := 6) hx hb dX7_winsGame_119 (by decide) ?_
  refine lv_aload_n hx hb dX7_winsGame_121 rfl (lv_at hl 0 rfl) ?_
  refine q_get (TT := TX7) C0 in_X7_winsGame_X7 10 m_X7_winsGame_f103 hP 0 rfl rfl (by decide) rfl rfl dX7_winsGame_122 ?_
  refine q_iast (g := upd (upd (upd (upd ta 2 0) 3 0) (Int32.toNatClampNeg (4 + x1)) (((upd (upd ta 2 0) 3 0) (Int32.toNatClampNeg (4 + x1))) + 1)) 6 (1 - fs)) C0 hP hD hS 6 0 rfl rfl (by unfold vp_in; decide) rfl dX7_winsGame_125 (fun H locs hP hD hS => ?_)
  have hP : va_P (dC, dI) vwCl [(bM, .inr (7, [.int th, .long tc, .ref b0, .int pd, .ref b1, .ref b2, .ref b3, .long be, .ref b4, .ref b5, .int (1 - fs)])), (b0, .inl (cI, 7, .inl mr)), (b1, .inl (cI, 400, .inl mp)), (b2, .inl (cJ, 49, .inr (.inl ch))), (b3, .inl (cJ, 49, .inr (.inl la))), (b4, .inl (cJ, 128, .inr (.inl se))), (b5, .inl (cI, 13, .inl (upd (upd (upd (upd ta 2 0) 3 0) (Int32.toNatClampNeg (4 + x1)) (((upd (upd ta 2 0) 3 0) (Int32.toNatClampNeg (4 + x1))) + 1)) 6 (1 - fs))))] H := hP
  have hD : va_D A [(bM, .inr (7, [.int th, .long tc, .ref b0, .int pd, .ref b1, .ref b2, .ref b3, .long be, .ref b4, .ref b5, .int (1 - fs)])), (b0, .inl (cI, 7, .inl mr)), (b1, .inl (cI, 400, .inl mp)), (b2, .inl (cJ, 49, .inr (.inl ch))), (b3, .inl (cJ, 49, .inr (.inl la))), (b4, .inl (cJ, 128, .inr (.inl se))), (b5, .inl (cI, 13, .inl (upd (upd (upd (upd ta 2 0) 3 0) (Int32.toNatClampNeg (4 + x1)) (((upd (upd ta 2 0) 3 0) (Int32.toNatClampNeg (4 + x1))) + 1)) 6 (1 - fs))))] := hD
  refine lv_aload_n hx hb dX7_winsGame_126 rfl (lv_at hl 0 rfl) ?_
  refine q_get (TT := TX7) C0 in_X7_winsGame_X7 9 m_X7_winsGame_f26 hP 0 rfl rfl (by decide) rfl rfl dX7_winsGame_127 ?_
  refine lv_bipush (v := 12) hx hb dX7_winsGame_130 (by decide) ?_
  refine lv_aload_n hx hb dX7_winsGame_132 rfl (lv_at hl 0 rfl) ?_
  refine q_get (TT := TX7) C0 in_X7_winsGame_X7 9 m_X7_winsGame_f26 hP 0 rfl rfl (by decide) rfl rfl dX7_winsGame_133 ?_
  refine lv_iconst (v := 4) hx hb dX7_winsGame_136 (by decide) ?_
  refine lv_iload_n hx hb dX7_winsGame_137 rfl (lv_at hl 1 rfl) ?_
  refine lv_iadd hx hb dX7_winsGame_138 ?_
  obtain ⟨hin6, hf⟩ := q_gd hf
  refine q_iald (v := (upd (upd (upd (upd ta 2 0) 3 0) (Int32.toNatClampNeg (4 + x1)) (((upd (upd ta 2 0) 3 0) (Int32.toNatClampNeg (4 + x1))) + 1)) 6 (1 - fs)) (Int32.toNatClampNeg (4 + x1))) C0 hP 6 0 rfl rfl hin6 rfl dX7_winsGame_139 ?_
  refine lv_aload_n hx hb dX7_winsGame_140 rfl (lv_at hl 0 rfl) ?_
  refine q_get (TT := TX7) C0 in_X7_winsGame_X7 2 m_X7_winsGame_f7 hP 0 rfl rfl (by decide) rfl rfl dX7_winsGame_141 ?_
  refine lv_iconst (v := 4) hx hb dX7_winsGame_144 (by decide) ?_
  refine q_iald (v := mr 4) C0 hP 1 0 rfl rfl (by unfold vp_in; decide) rfl dX7_winsGame_145 ?_
  refine lv_icmp_ne (tgt := 153) hx hb dX7_winsGame_146 (by decide) (fun hc7 => ?_) (fun hc7 => ?_)
  · have hf := q_nif hf hc7
    refine lv_bipush (v := (-9)) hx hb dX7_winsGame_153 (by decide) ?_
    exact B_X7_winsGame_155 C0 hf H locs ls hP hD hS (lv_sub hl [0] rfl)
  · have hf := q_if hf hc7
    refine lv_iload_n hx hb dX7_winsGame_149 rfl (lv_at hl 1 rfl) ?_
    refine lv_goto (tgt := 155) hx hb dX7_winsGame_150 (by decide) ?_
    exact B_X7_winsGame_155 C0 hf H locs ls hP hD hS (lv_sub hl [0] rfl)
set_option maxHeartbeats 4000000 in
set_option maxRecDepth 100000 in
theorem B_X7_winsGame_66 {p : Program} {l : Launch} {e : Env} {s : State} {m : MethodId} {args : Array Value} {below : List Frame} {meth : Method} {c : Code} {A : Nat → Prop} {dC : Nat → ClassId} {dI : Nat → Nat → Nat} {cI cJ cZ : ClassId} {bM b0 b1 b2 b3 b4 b5 : Nat} (C0 : q_C p s m args meth c (dC, dI) (q_T cI cJ cZ) A RX7 wsX7_winsGame cX7_winsGame 5 none) {x1 : Int32} {x2 : Int32} {x3 : Int32} {x4 : Int32} {th : Int32} {tc : Int64} {mr : (Nat → Int32)} {pd : Int32} {mp : (Nat → Int32)} {ch : (Nat → Int64)} {la : (Nat → Int64)} {be : Int64} {se : (Nat → Int64)} {ta : (Nat → Int32)} {fs : Int32} {R : (Nat → Int32) × Int32} (hf : b_X7_winsGame_66 x1 x2 x3 x4 th tc mr pd mp ch la be se ta fs = some R) : ∀ (H : Heap) (locs : List Loc) (ls : Array Slot), va_P (dC, dI) vwCl [(bM, .inr (7, [.int th, .long tc, .ref b0, .int pd, .ref b1, .ref b2, .ref b3, .long be, .ref b4, .ref b5, .int fs])), (b0, .inl (cI, 7, .inl mr)), (b1, .inl (cI, 400, .inl mp)), (b2, .inl (cJ, 49, .inr (.inl ch))), (b3, .inl (cJ, 49, .inr (.inl la))), (b4, .inl (cJ, 128, .inr (.inl se))), (b5, .inl (cI, 13, .inl ta))] H → va_D A [(bM, .inr (7, [.int th, .long tc, .ref b0, .int pd, .ref b1, .ref b2, .ref b3, .long be, .ref b4, .ref b5, .int fs])), (b0, .inl (cI, 7, .inl mr)), (b1, .inl (cI, 400, .inl mp)), (b2, .inl (cJ, 49, .inr (.inl ch))), (b3, .inl (cJ, 49, .inr (.inl la))), (b4, .inl (cJ, 128, .inr (.inl se))), (b5, .inl (cI, 13, .inl ta))] → va_S A s.heap H locs → lv_has ls 5 [(0, .ref bM), (1, .int x1), (2, .int x2), (3, .int x3), (4, .int x4)] → W p l e rmX7_winsGame s m args below meth c H locs 0 0 (MQ below (qV (dC, dI) (q_T cI cJ cZ) [(bM, .inr (7, [.int th, .long tc, .ref b0, .int pd, .ref b1, .ref b2, .ref b3, .long be, .ref b4, .ref b5, .int R.2])), (b0, .inl (cI, 7, .inl mr)), (b1, .inl (cI, 400, .inl mp)), (b2, .inl (cJ, 49, .inr (.inl ch))), (b3, .inl (cJ, 49, .inr (.inl la))), (b4, .inl (cJ, 128, .inr (.inl se))), (b5, .inl (cI, 13, .inl R.1))] A) args s 0 0 A) (F0 m 66 ls []) := by
  obtain ⟨hx, hb, hml, hown, hts, hrt, hlk, hK, hX, hA⟩ := id C0
  intro H locs ls hP hD hS hl
  unfold b_X7_winsGame_66 at hf
  refine lv_iload_n hx hb dX7_winsGame_66 rfl (lv_at hl 3 rfl) ?_
  refine lv_iload_n hx hb dX7_winsGame_67 rfl (lv_at hl 2 rfl) ?_
  refine lv_iconst (v := 1) hx hb dX7_winsGame_68 (by decide) ?_
  refine lv_iadd hx hb dX7_winsGame_69 ?_
  refine lv_icmp_ne (tgt := 156) hx hb dX7_winsGame_70 (by decide) (fun hc8 => ?_) (fun hc8 => ?_)
  · have hf := q_nif hf hc8
    exact B_X7_winsGame_156 C0 hf H locs ls hP hD hS (lv_sub hl [0] rfl)
  · have hf := q_if hf hc8
    refine lv_iload hx hb dX7_winsGame_73 (lv_at hl 4 rfl) ?_
    refine lv_iload_n hx hb dX7_winsGame_75 rfl (lv_at hl 2 rfl) ?_
    refine lv_icmp_ne (tgt := 156) hx hb dX7_winsGame_76 (by decide) (fun hc9 => ?_) (fun hc9 => ?_)
    · have hf := q_nif hf hc9
      exact B_X7_winsGame_156 C0 hf H locs ls hP hD hS (lv_sub hl [0] rfl)
    · have hf := q_if hf hc9
      exact B_X7_winsGame_79 C0 hf H locs ls hP hD hS (lv_sub hl [0, 1] rfl)
set_option maxHeartbeats 4000000 in
set_option maxRecDepth 100000 in
theorem B_X7_winsGame_0 {p : Program} {l : Launch} {e : Env} {s : State} {m : MethodId} {args : Array Value} {below : List Frame} {meth : Method} {c : Code} {A : Nat → Prop} {dC : Nat → ClassId} {dI : Nat → Nat → Nat} {cI cJ cZ : ClassId} {bM b0 b1 b2 b3 b4 b5 : Nat} (C0 : q_C p s m args meth c (dC, dI) (q_T cI cJ cZ) A RX7 wsX7_winsGame cX7_winsGame 5 none) {x1 : Int32} {th : Int32} {tc : Int64} {mr : (Nat → Int32)} {pd : Int32} {mp : (Nat → Int32)} {ch : (Nat → Int64)} {la : (Nat → Int64)} {be : Int64} {se : (Nat → Int64)} {ta : (Nat → Int32)} {fs : Int32} {R : (Nat → Int32) × Int32} (hf : f_X7_winsGame x1 th tc mr pd mp ch la be se ta fs = some R) : ∀ (H : Heap) (locs : List Loc) (ls : Array Slot), va_P (dC, dI) vwCl [(bM, .inr (7, [.int th, .long tc, .ref b0, .int pd, .ref b1, .ref b2, .ref b3, .long be, .ref b4, .ref b5, .int fs])), (b0, .inl (cI, 7, .inl mr)), (b1, .inl (cI, 400, .inl mp)), (b2, .inl (cJ, 49, .inr (.inl ch))), (b3, .inl (cJ, 49, .inr (.inl la))), (b4, .inl (cJ, 128, .inr (.inl se))), (b5, .inl (cI, 13, .inl ta))] H → va_D A [(bM, .inr (7, [.int th, .long tc, .ref b0, .int pd, .ref b1, .ref b2, .ref b3, .long be, .ref b4, .ref b5, .int fs])), (b0, .inl (cI, 7, .inl mr)), (b1, .inl (cI, 400, .inl mp)), (b2, .inl (cJ, 49, .inr (.inl ch))), (b3, .inl (cJ, 49, .inr (.inl la))), (b4, .inl (cJ, 128, .inr (.inl se))), (b5, .inl (cI, 13, .inl ta))] → va_S A s.heap H locs → lv_has ls 5 [(0, .ref bM), (1, .int x1)] → W p l e rmX7_winsGame s m args below meth c H locs 0 0 (MQ below (qV (dC, dI) (q_T cI cJ cZ) [(bM, .inr (7, [.int th, .long tc, .ref b0, .int pd, .ref b1, .ref b2, .ref b3, .long be, .ref b4, .ref b5, .int R.2])), (b0, .inl (cI, 7, .inl mr)), (b1, .inl (cI, 400, .inl mp)), (b2, .inl (cJ, 49, .inr (.inl ch))), (b3, .inl (cJ, 49, .inr (.inl la))), (b4, .inl (cJ, 128, .inr (.inl se))), (b5, .inl (cI, 13, .inl R.1))] A) args s 0 0 A) (F0 m 0 ls []) := by
  obtain ⟨hx, hb, hml, hown, hts, hrt, hlk, hK, hX, hA⟩ := id C0
  intro H locs ls hP hD hS hl
  unfold f_X7_winsGame at hf
  refine lv_aload_n hx hb dX7_winsGame_0 rfl (lv_at hl 0 rfl) ?_
  refine q_get (TT := TX7) C0 in_X7_winsGame_X7 2 m_X7_winsGame_f7 hP 0 rfl rfl (by decide) rfl rfl dX7_winsGame_1 ?_
  refine lv_iconst (v := 3) hx hb dX7_winsGame_4 (by decide) ?_
  refine q_iald (v := mr 3) C0 hP 1 0 rfl rfl (by unfold vp_in; decide) rfl dX7_winsGame_5 ?_
  refine lv_istore_n (lv' := [(2, .int (mr 3)), (0, .ref bM), (1, .int x1)]) hx hb dX7_winsGame_6 rfl hl (by decide) rfl (fun ls hl => ?_)
  refine lv_aload_n hx hb dX7_winsGame_7 rfl (lv_at hl 1 rfl) ?_
  refine q_get (TT := TX7) C0 in_X7_winsGame_X7 9 m_X7_winsGame_f26 hP 0 rfl rfl (by decide) rfl rfl dX7_winsGame_8 ?_
  refine lv_iconst (v := 2) hx hb dX7_winsGame_11 (by decide) ?_
  refine lv_iload_n hx hb dX7_winsGame_12 rfl (lv_at hl 2 rfl) ?_
  refine lv_iadd hx hb dX7_winsGame_13 ?_
  obtain ⟨hin10, hf⟩ := q_gd hf
  refine q_iald (v := ta (Int32.toNatClampNeg (2 + x1))) C0 hP 6 0 rfl rfl hin10 rfl dX7_winsGame_14 ?_
  refine lv_iconst (v := 1) hx hb dX7_winsGame_15 (by decide) ?_
  refine lv_iadd hx hb dX7_winsGame_16 ?_
  refine lv_istore_n (lv' := [(3, .int ((ta (Int32.toNatClampNeg (2 + x1))) + 1)), (2, .int (mr 3)), (0, .ref bM), (1, .int x1)]) hx hb dX7_winsGame_17 rfl hl (by decide) rfl (fun ls hl => ?_)
  refine lv_aload_n hx hb dX7_winsGame_18 rfl (lv_at hl 2 rfl) ?_
  refine q_get (TT := TX7) C0 in_X7_winsGame_X7 9 m_X7_winsGame_f26 hP 0 rfl rfl (by decide) rfl rfl dX7_winsGame_19 ?_
  refine lv_iconst (v := 3) hx hb dX7_winsGame_22 (by decide) ?_
  refine lv_iload_n hx hb dX7_winsGame_23 rfl (lv_at hl 3 rfl) ?_
  refine lv_isub hx hb dX7_winsGame_24 ?_
  obtain ⟨hin11, hf⟩ := q_gd hf
  refine q_iald (v := ta (Int32.toNatClampNeg (3 - x1))) C0 hP 6 0 rfl rfl hin11 rfl dX7_winsGame_25 ?_
  refine lv_istore (lv' := [(4, .int (ta (Int32.toNatClampNeg (3 - x1)))), (3, .int ((ta (Int32.toNatClampNeg (2 + x1))) + 1)), (2, .int (mr 3)), (0, .ref bM), (1, .int x1)]) hx hb dX7_winsGame_26 hl (by decide) rfl (fun ls hl => ?_)
  refine lv_aload_n hx hb dX7_winsGame_28 rfl (lv_at hl 3 rfl) ?_
  refine q_get (TT := TX7) C0 in_X7_winsGame_X7 9 m_X7_winsGame_f26 hP 0 rfl rfl (by decide) rfl rfl dX7_winsGame_29 ?_
  refine lv_iconst (v := 2) hx hb dX7_winsGame_32 (by decide) ?_
  refine lv_iload_n hx hb dX7_winsGame_33 rfl (lv_at hl 4 rfl) ?_
  refine lv_iadd hx hb dX7_winsGame_34 ?_
  refine lv_iload_n hx hb dX7_winsGame_35 rfl (lv_at hl 1 rfl) ?_
  obtain ⟨hin12, hf⟩ := q_gd hf
  refine q_iast (g := upd ta (Int32.toNatClampNeg (2 + x1)) ((ta (Int32.toNatClampNeg (2 + x1))) + 1)) C0 hP hD hS 6 0 rfl rfl hin12 rfl dX7_winsGame_36 (fun H locs hP hD hS => ?_)
  have hP : va_P (dC, dI) vwCl [(bM, .inr (7, [.int th, .long tc, .ref b0, .int pd, .ref b1, .ref b2, .ref b3, .long be, .ref b4, .ref b5, .int fs])), (b0, .inl (cI, 7, .inl mr)), (b1, .inl (cI, 400, .inl mp)), (b2, .inl (cJ, 49, .inr (.inl ch))), (b3, .inl (cJ, 49, .inr (.inl la))), (b4, .inl (cJ, 128, .inr (.inl se))), (b5, .inl (cI, 13, .inl (upd ta (Int32.toNatClampNeg (2 + x1)) ((ta (Int32.toNatClampNeg (2 + x1))) + 1))))] H := hP
  have hD : va_D A [(bM, .inr (7, [.int th, .long tc, .ref b0, .int pd, .ref b1, .ref b2, .ref b3, .long be, .ref b4, .ref b5, .int fs])), (b0, .inl (cI, 7, .inl mr)), (b1, .inl (cI, 400, .inl mp)), (b2, .inl (cJ, 49, .inr (.inl ch))), (b3, .inl (cJ, 49, .inr (.inl la))), (b4, .inl (cJ, 128, .inr (.inl se))), (b5, .inl (cI, 13, .inl (upd ta (Int32.toNatClampNeg (2 + x1)) ((ta (Int32.toNatClampNeg (2 + x1))) + 1))))] := hD
  refine lv_aload_n hx hb dX7_winsGame_37 rfl (lv_at hl 3 rfl) ?_
  refine q_get (TT := TX7) C0 in_X7_winsGame_X7 9 m_X7_winsGame_f26 hP 0 rfl rfl (by decide) rfl rfl dX7_winsGame_38 ?_
  refine lv_bipush (v := 6) hx hb dX7_winsGame_41 (by decide) ?_
  refine lv_iconst (v := 1) hx hb dX7_winsGame_43 (by decide) ?_
  refine lv_aload_n hx hb dX7_winsGame_44 rfl (lv_at hl 3 rfl) ?_
  refine q_get (TT := TX7) C0 in_X7_winsGame_X7 9 m_X7_winsGame_f26 hP 0 rfl rfl (by decide) rfl rfl dX7_winsGame_45 ?_
  refine lv_bipush (v := 6) hx hb dX7_winsGame_48 (by decide) ?_
  refine q_iald (v := (upd ta (Int32.toNatClampNeg (2 + x1)) ((ta (Int32.toNatClampNeg (2 + x1))) + 1)) 6) C0 hP 6 0 rfl rfl (by unfold vp_in; decide) rfl dX7_winsGame_50 ?_
  refine lv_isub hx hb dX7_winsGame_51 ?_
  refine q_iast (g := upd (upd ta (Int32.toNatClampNeg (2 + x1)) ((ta (Int32.toNatClampNeg (2 + x1))) + 1)) 6 (1 - ((upd ta (Int32.toNatClampNeg (2 + x1)) ((ta (Int32.toNatClampNeg (2 + x1))) + 1)) 6))) C0 hP hD hS 6 0 rfl rfl (by unfold vp_in; decide) rfl dX7_winsGame_52 (fun H locs hP hD hS => ?_)
  have hP : va_P (dC, dI) vwCl [(bM, .inr (7, [.int th, .long tc, .ref b0, .int pd, .ref b1, .ref b2, .ref b3, .long be, .ref b4, .ref b5, .int fs])), (b0, .inl (cI, 7, .inl mr)), (b1, .inl (cI, 400, .inl mp)), (b2, .inl (cJ, 49, .inr (.inl ch))), (b3, .inl (cJ, 49, .inr (.inl la))), (b4, .inl (cJ, 128, .inr (.inl se))), (b5, .inl (cI, 13, .inl (upd (upd ta (Int32.toNatClampNeg (2 + x1)) ((ta (Int32.toNatClampNeg (2 + x1))) + 1)) 6 (1 - ((upd ta (Int32.toNatClampNeg (2 + x1)) ((ta (Int32.toNatClampNeg (2 + x1))) + 1)) 6)))))] H := hP
  have hD : va_D A [(bM, .inr (7, [.int th, .long tc, .ref b0, .int pd, .ref b1, .ref b2, .ref b3, .long be, .ref b4, .ref b5, .int fs])), (b0, .inl (cI, 7, .inl mr)), (b1, .inl (cI, 400, .inl mp)), (b2, .inl (cJ, 49, .inr (.inl ch))), (b3, .inl (cJ, 49, .inr (.inl la))), (b4, .inl (cJ, 128, .inr (.inl se))), (b5, .inl (cI, 13, .inl (upd (upd ta (Int32.toNatClampNeg (2 + x1)) ((ta (Int32.toNatClampNeg (2 + x1))) + 1)) 6 (1 - ((upd ta (Int32.toNatClampNeg (2 + x1)) ((ta (Int32.toNatClampNeg (2 + x1))) + 1)) 6)))))] := hD
  refine lv_iload_n hx hb dX7_winsGame_53 rfl (lv_at hl 1 rfl) ?_
  refine lv_iload_n hx hb dX7_winsGame_54 rfl (lv_at hl 2 rfl) ?_
  refine lv_icmp_lt (tgt := 66) hx hb dX7_winsGame_55 (by decide) (fun hc13 => ?_) (fun hc13 => ?_)
  · have hf := q_if hf hc13
    exact B_X7_winsGame_66 C0 hf H locs ls hP hD hS (lv_sub hl [3, 4, 2, 1, 0] rfl)
  · have hf := q_nif hf hc13
    refine lv_iload_n hx hb dX7_winsGame_58 rfl (lv_at hl 1 rfl) ?_
    refine lv_iload hx hb dX7_winsGame_59 (lv_at hl 0 rfl) ?_
    refine lv_isub hx hb dX7_winsGame_61 ?_
    refine lv_iconst (v := 2) hx hb dX7_winsGame_62 (by decide) ?_
    refine lv_icmp_ge (tgt := 79) hx hb dX7_winsGame_63 (by decide) (fun hc14 => ?_) (fun hc14 => ?_)
    · have hf := q_if hf hc14
      exact B_X7_winsGame_79 C0 hf H locs ls hP hD hS (lv_sub hl [3, 4] rfl)
    · have hf := q_nif hf hc14
      exact B_X7_winsGame_66 C0 hf H locs ls hP hD hS (lv_sub hl [3, 4, 2, 1, 0] rfl)
set_option maxHeartbeats 4000000 in
set_option maxRecDepth 100000 in
theorem c_X7_winsGame {l : Launch} {dC : Nat → ClassId} {dI : Nat → Nat → Nat} {cI cJ cZ : ClassId} {bM b0 b1 b2 b3 b4 b5 : Nat} {x1 : Int32} {th : Int32} {tc : Int64} {mr : (Nat → Int32)} {pd : Int32} {mp : (Nat → Int32)} {ch : (Nat → Int64)} {la : (Nat → Int64)} {be : Int64} {se : (Nat → Int64)} {ta : (Nat → Int32)} {fs : Int32} {R : (Nat → Int32) × Int32} (hf : f_X7_winsGame x1 th tc mr pd mp ch la be se ta fs = some R) : q_M l yX7_winsGame wsX7_winsGame rmX7_winsGame (dC, dI) (q_T cI cJ cZ) [.ref bM, .int x1] [(bM, .inr (7, [.int th, .long tc, .ref b0, .int pd, .ref b1, .ref b2, .ref b3, .long be, .ref b4, .ref b5, .int fs])), (b0, .inl (cI, 7, .inl mr)), (b1, .inl (cI, 400, .inl mp)), (b2, .inl (cJ, 49, .inr (.inl ch))), (b3, .inl (cJ, 49, .inr (.inl la))), (b4, .inl (cJ, 128, .inr (.inl se))), (b5, .inl (cI, 13, .inl ta))] (qV (dC, dI) (q_T cI cJ cZ) [(bM, .inr (7, [.int th, .long tc, .ref b0, .int pd, .ref b1, .ref b2, .ref b3, .long be, .ref b4, .ref b5, .int R.2])), (b0, .inl (cI, 7, .inl mr)), (b1, .inl (cI, 400, .inl mp)), (b2, .inl (cJ, 49, .inr (.inl ch))), (b3, .inl (cJ, 49, .inr (.inl la))), (b4, .inl (cJ, 128, .inr (.inl se))), (b5, .inl (cI, 13, .inl R.1))]) := by
  refine q_body (cc := cX7_winsGame) (maxL := 5) (ret := none) (by decide) rfl (Nat.le_of_ble_eq_true rfl) ?_
  intro p e s m args below meth c A C0 ls hP hD hS hl
  have hl : lv_has ls 5 [(0, .ref bM), (1, .int x1)] := hl
  exact B_X7_winsGame_0 C0 hf s.heap [] ls hP hD hS hl
/-! ## RungPlayModel.replays -/
abbrev rmX7_replays : Room := { frames := 2, cells := 0, slots := 0, locals := 44 }
theorem m_X7_replays_f44 : Cond.fieldLink RX7 44 RX7 "played" "I" ∈ wsX7_replays := by decide +kernel
theorem in_X7_replays_X7 : ∀ w ∈ wsX70, w ∈ wsX7_replays := by decide +kernel
theorem m_X7_replays_f13 : Cond.fieldLink RX7 13 RX7 "points" "[I" ∈ wsX7_replays := by decide +kernel
theorem m_X7_replays_f26 : Cond.fieldLink RX7 26 RX7 "told" "[I" ∈ wsX7_replays := by decide +kernel
theorem m_X7_replays_f7 : Cond.fieldLink RX7 7 RX7 "rules" "[I" ∈ wsX7_replays := by decide +kernel
theorem m_X7_replays_f103 : Cond.fieldLink RX7 103 RX7 "firstServer" "I" ∈ wsX7_replays := by decide +kernel
noncomputable def b_X7_replays_135 (k : (Int32 × (Nat → Int32) × Int32) → Option (Int32 × (Nat → Int32) × Int32)) (x1 : Int32) (th : Int32) (tc : Int64) (mr : (Nat → Int32)) (pd : Int32) (mp : (Nat → Int32)) (ch : (Nat → Int64)) (la : (Nat → Int64)) (be : Int64) (se : (Nat → Int64)) (ta : (Nat → Int32)) (fs : Int32) : Option (Int32 × (Nat → Int32) × Int32) :=
  (k (x1 + 1, ta, fs))
noncomputable def b_X7_replays_41 (k : (Int32 × (Nat → Int32) × Int32) → Option (Int32 × (Nat → Int32) × Int32)) (x1 : Int32) (th : Int32) (tc : Int64) (mr : (Nat → Int32)) (pd : Int32) (mp : (Nat → Int32)) (ch : (Nat → Int64)) (la : (Nat → Int64)) (be : Int64) (se : (Nat → Int64)) (ta : (Nat → Int32)) (fs : Int32) : Option (Int32 × (Nat → Int32) × Int32) :=
  (if pd ≤ x1 then (some (x1, ta, fs)) else (if x1 < 0 ∨ 400 ≤ Int32.toNatClampNeg x1 then none else (if mp (Int32.toNatClampNeg x1) < 0 ∨ 13 ≤ Int32.toNatClampNeg (mp (Int32.toNatClampNeg x1)) then none else (if mp (Int32.toNatClampNeg x1) < 0 ∨ 13 ≤ Int32.toNatClampNeg (mp (Int32.toNatClampNeg x1)) then none else (if (8 + (2 * ((upd (upd ta (Int32.toNatClampNeg (mp (Int32.toNatClampNeg x1))) ((ta (Int32.toNatClampNeg (mp (Int32.toNatClampNeg x1)))) + 1)) 7 (((upd ta (Int32.toNatClampNeg (mp (Int32.toNatClampNeg x1))) ((ta (Int32.toNatClampNeg (mp (Int32.toNatClampNeg x1)))) + 1)) 7) + 1)) 6))) + (mp (Int32.toNatClampNeg x1)) < 0 ∨ 13 ≤ Int32.toNatClampNeg ((8 + (2 * ((upd (upd ta (Int32.toNatClampNeg (mp (Int32.toNatClampNeg x1))) ((ta (Int32.toNatClampNeg (mp (Int32.toNatClampNeg x1)))) + 1)) 7 (((upd ta (Int32.toNatClampNeg (mp (Int32.toNatClampNeg x1))) ((ta (Int32.toNatClampNeg (mp (Int32.toNatClampNeg x1)))) + 1)) 7) + 1)) 6))) + (mp (Int32.toNatClampNeg x1))) then none else (if (8 + (2 * ((upd (upd ta (Int32.toNatClampNeg (mp (Int32.toNatClampNeg x1))) ((ta (Int32.toNatClampNeg (mp (Int32.toNatClampNeg x1)))) + 1)) 7 (((upd ta (Int32.toNatClampNeg (mp (Int32.toNatClampNeg x1))) ((ta (Int32.toNatClampNeg (mp (Int32.toNatClampNeg x1)))) + 1)) 7) + 1)) 6))) + (mp (Int32.toNatClampNeg x1)) < 0 ∨ 13 ≤ Int32.toNatClampNeg ((8 + (2 * ((upd (upd ta (Int32.toNatClampNeg (mp (Int32.toNatClampNeg x1))) ((ta (Int32.toNatClampNeg (mp (Int32.toNatClampNeg x1)))) + 1)) 7 (((upd ta (Int32.toNatClampNeg (mp (Int32.toNatClampNeg x1))) ((ta (Int32.toNatClampNeg (mp (Int32.toNatClampNeg x1)))) + 1)) 7) + 1)) 6))) + (mp (Int32.toNatClampNeg x1))) then none else (q_b1 (f_X7_wonOf (mr 6) ((upd (upd (upd ta (Int32.toNatClampNeg (mp (Int32.toNatClampNeg x1))) ((ta (Int32.toNatClampNeg (mp (Int32.toNatClampNeg x1)))) + 1)) 7 (((upd ta (Int32.toNatClampNeg (mp (Int32.toNatClampNeg x1))) ((ta (Int32.toNatClampNeg (mp (Int32.toNatClampNeg x1)))) + 1)) 7) + 1)) (Int32.toNatClampNeg ((8 + (2 * ((upd (upd ta (Int32.toNatClampNeg (mp (Int32.toNatClampNeg x1))) ((ta (Int32.toNatClampNeg (mp (Int32.toNatClampNeg x1)))) + 1)) 7 (((upd ta (Int32.toNatClampNeg (mp (Int32.toNatClampNeg x1))) ((ta (Int32.toNatClampNeg (mp (Int32.toNatClampNeg x1)))) + 1)) 7) + 1)) 6))) + (mp (Int32.toNatClampNeg x1)))) (((upd (upd ta (Int32.toNatClampNeg (mp (Int32.toNatClampNeg x1))) ((ta (Int32.toNatClampNeg (mp (Int32.toNatClampNeg x1)))) + 1)) 7 (((upd ta (Int32.toNatClampNeg (mp (Int32.toNatClampNeg x1))) ((ta (Int32.toNatClampNeg (mp (Int32.toNatClampNeg x1)))) + 1)) 7) + 1)) (Int32.toNatClampNeg ((8 + (2 * ((upd (upd ta (Int32.toNatClampNeg (mp (Int32.toNatClampNeg x1))) ((ta (Int32.toNatClampNeg (mp (Int32.toNatClampNeg x1)))) + 1)) 7 (((upd ta (Int32.toNatClampNeg (mp (Int32.toNatClampNeg x1))) ((ta (Int32.toNatClampNeg (mp (Int32.toNatClampNeg x1)))) + 1)) 7) + 1)) 6))) + (mp (Int32.toNatClampNeg x1))))) + 1)) 0) ((upd (upd (upd ta (Int32.toNatClampNeg (mp (Int32.toNatClampNeg x1))) ((ta (Int32.toNatClampNeg (mp (Int32.toNatClampNeg x1)))) + 1)) 7 (((upd ta (Int32.toNatClampNeg (mp (Int32.toNatClampNeg x1))) ((ta (Int32.toNatClampNeg (mp (Int32.toNatClampNeg x1)))) + 1)) 7) + 1)) (Int32.toNatClampNeg ((8 + (2 * ((upd (upd ta (Int32.toNatClampNeg (mp (Int32.toNatClampNeg x1))) ((ta (Int32.toNatClampNeg (mp (Int32.toNatClampNeg x1)))) + 1)) 7 (((upd ta (Int32.toNatClampNeg (mp (Int32.toNatClampNeg x1))) ((ta (Int32.toNatClampNeg (mp (Int32.toNatClampNeg x1)))) + 1)) 7) + 1)) 6))) + (mp (Int32.toNatClampNeg x1)))) (((upd (upd ta (Int32.toNatClampNeg (mp (Int32.toNatClampNeg x1))) ((ta (Int32.toNatClampNeg (mp (Int32.toNatClampNeg x1)))) + 1)) 7 (((upd ta (Int32.toNatClampNeg (mp (Int32.toNatClampNeg x1))) ((ta (Int32.toNatClampNeg (mp (Int32.toNatClampNeg x1)))) + 1)) 7) + 1)) (Int32.toNatClampNeg ((8 + (2 * ((upd (upd ta (Int32.toNatClampNeg (mp (Int32.toNatClampNeg x1))) ((ta (Int32.toNatClampNeg (mp (Int32.toNatClampNeg x1)))) + 1)) 7 (((upd ta (Int32.toNatClampNeg (mp (Int32.toNatClampNeg x1))) ((ta (Int32.toNatClampNeg (mp (Int32.toNatClampNeg x1)))) + 1)) 7) + 1)) 6))) + (mp (Int32.toNatClampNeg x1))))) + 1)) 1) th tc mr pd mp ch la be se (upd (upd (upd ta (Int32.toNatClampNeg (mp (Int32.toNatClampNeg x1))) ((ta (Int32.toNatClampNeg (mp (Int32.toNatClampNeg x1)))) + 1)) 7 (((upd ta (Int32.toNatClampNeg (mp (Int32.toNatClampNeg x1))) ((ta (Int32.toNatClampNeg (mp (Int32.toNatClampNeg x1)))) + 1)) 7) + 1)) (Int32.toNatClampNeg ((8 + (2 * ((upd (upd ta (Int32.toNatClampNeg (mp (Int32.toNatClampNeg x1))) ((ta (Int32.toNatClampNeg (mp (Int32.toNatClampNeg x1)))) + 1)) 7 (((upd ta (Int32.toNatClampNeg (mp (Int32.toNatClampNeg x1))) ((ta (Int32.toNatClampNeg (mp (Int32.toNatClampNeg x1)))) + 1)) 7) + 1)) 6))) + (mp (Int32.toNatClampNeg x1)))) (((upd (upd ta (Int32.toNatClampNeg (mp (Int32.toNatClampNeg x1))) ((ta (Int32.toNatClampNeg (mp (Int32.toNatClampNeg x1)))) + 1)) 7 (((upd ta (Int32.toNatClampNeg (mp (Int32.toNatClampNeg x1))) ((ta (Int32.toNatClampNeg (mp (Int32.toNatClampNeg x1)))) + 1)) 7) + 1)) (Int32.toNatClampNeg ((8 + (2 * ((upd (upd ta (Int32.toNatClampNeg (mp (Int32.toNatClampNeg x1))) ((ta (Int32.toNatClampNeg (mp (Int32.toNatClampNeg x1)))) + 1)) 7 (((upd ta (Int32.toNatClampNeg (mp (Int32.toNatClampNeg x1))) ((ta (Int32.toNatClampNeg (mp (Int32.toNatClampNeg x1)))) + 1)) 7) + 1)) 6))) + (mp (Int32.toNatClampNeg x1))))) + 1)) fs) (fun r7 => (if r7 ≤ 0 then (b_X7_replays_135 k x1 th tc mr pd mp ch la be se (upd (upd (upd ta (Int32.toNatClampNeg (mp (Int32.toNatClampNeg x1))) ((ta (Int32.toNatClampNeg (mp (Int32.toNatClampNeg x1)))) + 1)) 7 (((upd ta (Int32.toNatClampNeg (mp (Int32.toNatClampNeg x1))) ((ta (Int32.toNatClampNeg (mp (Int32.toNatClampNeg x1)))) + 1)) 7) + 1)) (Int32.toNatClampNeg ((8 + (2 * ((upd (upd ta (Int32.toNatClampNeg (mp (Int32.toNatClampNeg x1))) ((ta (Int32.toNatClampNeg (mp (Int32.toNatClampNeg x1)))) + 1)) 7 (((upd ta (Int32.toNatClampNeg (mp (Int32.toNatClampNeg x1))) ((ta (Int32.toNatClampNeg (mp (Int32.toNatClampNeg x1)))) + 1)) 7) + 1)) 6))) + (mp (Int32.toNatClampNeg x1)))) (((upd (upd ta (Int32.toNatClampNeg (mp (Int32.toNatClampNeg x1))) ((ta (Int32.toNatClampNeg (mp (Int32.toNatClampNeg x1)))) + 1)) 7 (((upd ta (Int32.toNatClampNeg (mp (Int32.toNatClampNeg x1))) ((ta (Int32.toNatClampNeg (mp (Int32.toNatClampNeg x1)))) + 1)) 7) + 1)) (Int32.toNatClampNeg ((8 + (2 * ((upd (upd ta (Int32.toNatClampNeg (mp (Int32.toNatClampNeg x1))) ((ta (Int32.toNatClampNeg (mp (Int32.toNatClampNeg x1)))) + 1)) 7 (((upd ta (Int32.toNatClampNeg (mp (Int32.toNatClampNeg x1))) ((ta (Int32.toNatClampNeg (mp (Int32.toNatClampNeg x1)))) + 1)) 7) + 1)) 6))) + (mp (Int32.toNatClampNeg x1))))) + 1)) fs) else (q_b2 (f_X7_winsGame (r7 - 1) th tc mr pd mp ch la be se (upd (upd (upd ta (Int32.toNatClampNeg (mp (Int32.toNatClampNeg x1))) ((ta (Int32.toNatClampNeg (mp (Int32.toNatClampNeg x1)))) + 1)) 7 (((upd ta (Int32.toNatClampNeg (mp (Int32.toNatClampNeg x1))) ((ta (Int32.toNatClampNeg (mp (Int32.toNatClampNeg x1)))) + 1)) 7) + 1)) (Int32.toNatClampNeg ((8 + (2 * ((upd (upd ta (Int32.toNatClampNeg (mp (Int32.toNatClampNeg x1))) ((ta (Int32.toNatClampNeg (mp (Int32.toNatClampNeg x1)))) + 1)) 7 (((upd ta (Int32.toNatClampNeg (mp (Int32.toNatClampNeg x1))) ((ta (Int32.toNatClampNeg (mp (Int32.toNatClampNeg x1)))) + 1)) 7) + 1)) 6))) + (mp (Int32.toNatClampNeg x1)))) (((upd (upd ta (Int32.toNatClampNeg (mp (Int32.toNatClampNeg x1))) ((ta (Int32.toNatClampNeg (mp (Int32.toNatClampNeg x1)))) + 1)) 7 (((upd ta (Int32.toNatClampNeg (mp (Int32.toNatClampNeg x1))) ((ta (Int32.toNatClampNeg (mp (Int32.toNatClampNeg x1)))) + 1)) 7) + 1)) (Int32.toNatClampNeg ((8 + (2 * ((upd (upd ta (Int32.toNatClampNeg (mp (Int32.toNatClampNeg x1))) ((ta (Int32.toNatClampNeg (mp (Int32.toNatClampNeg x1)))) + 1)) 7 (((upd ta (Int32.toNatClampNeg (mp (Int32.toNatClampNeg x1))) ((ta (Int32.toNatClampNeg (mp (Int32.toNatClampNeg x1)))) + 1)) 7) + 1)) 6))) + (mp (Int32.toNatClampNeg x1))))) + 1)) fs) (fun ta10 fs11 => (b_X7_replays_135 k x1 th tc mr pd mp ch la be se ta10 fs11))))))))))))
noncomputable def l_X7_replays_41 (th : Int32) (tc : Int64) (mr : (Nat → Int32)) (pd : Int32) (mp : (Nat → Int32)) (ch : (Nat → Int64)) (la : (Nat → Int64)) (be : Int64) (se : (Nat → Int64)) (n : Nat) : (Int32 × (Nat → Int32) × Int32) → Option (Int32 × (Nat → Int32) × Int32) :=
  Nat.rec (fun _ => none) (fun _ k q => b_X7_replays_41 k q.1 th tc mr pd mp ch la be se q.2.1 q.2.2) n
noncomputable def b_X7_replays_2 (k : (Int32 × (Nat → Int32) × Int32) → Option (Int32 × (Nat → Int32) × Int32)) (x1 : Int32) (th : Int32) (tc : Int64) (mr : (Nat → Int32)) (pd : Int32) (mp : (Nat → Int32)) (ch : (Nat → Int64)) (la : (Nat → Int64)) (be : Int64) (se : (Nat → Int64)) (ta : (Nat → Int32)) (fs : Int32) : Option (Int32 × (Nat → Int32) × Int32) :=
  (if 12 ≤ x1 then (some (x1, ta, fs)) else (if x1 < 0 ∨ 13 ≤ Int32.toNatClampNeg x1 then none else (k (x1 + 1, upd ta (Int32.toNatClampNeg x1) 0, fs))))
noncomputable def l_X7_replays_2 (th : Int32) (tc : Int64) (mr : (Nat → Int32)) (pd : Int32) (mp : (Nat → Int32)) (ch : (Nat → Int64)) (la : (Nat → Int64)) (be : Int64) (se : (Nat → Int64)) (n : Nat) : (Int32 × (Nat → Int32) × Int32) → Option (Int32 × (Nat → Int32) × Int32) :=
  Nat.rec (fun _ => none) (fun _ k q => b_X7_replays_2 k q.1 th tc mr pd mp ch la be se q.2.1 q.2.2) n
noncomputable def f_X7_replays (th : Int32) (tc : Int64) (mr : (Nat → Int32)) (pd : Int32) (mp : (Nat → Int32)) (ch : (Nat → Int64)) (la : (Nat → Int64)) (be : Int64) (se : (Nat → Int64)) (ta : (Nat → Int32)) (fs : Int32) : Option ((Nat → Int32) × Int32) :=
  (q_b3 (l_X7_replays_2 th tc mr pd mp ch la be se 1000 (0, ta, fs)) (fun y15 y16 y17 => (q_b1 (f_X7_beginsGame th tc mr pd mp ch la be se (upd y16 12 (-9)) 0) (fun ta19 => (q_b3 (l_X7_replays_41 th tc mr pd mp ch la be se 1000 (0, ta19, 0)) (fun y21 y22 y23 => (some (y22, y23))))))))
set_option maxHeartbeats 4000000 in
set_option maxRecDepth 100000 in
theorem B_X7_replays_135 {p : Program} {l : Launch} {e : Env} {s : State} {m : MethodId} {args : Array Value} {below : List Frame} {meth : Method} {c : Code} {A : Nat → Prop} {dC : Nat → ClassId} {dI : Nat → Nat → Nat} {cI cJ cZ : ClassId} {bM b0 b1 b2 b3 b4 b5 : Nat} (C0 : q_C p s m args meth c (dC, dI) (q_T cI cJ cZ) A RX7 wsX7_replays cX7_replays 4 none) {Q : State → Prop} {k : (Int32 × (Nat → Int32) × Int32) → Option (Int32 × (Nat → Int32) × Int32)} {x1 : Int32} {th : Int32} {tc : Int64} {mr : (Nat → Int32)} {pd : Int32} {mp : (Nat → Int32)} {ch : (Nat → Int64)} {la : (Nat → Int64)} {be : Int64} {se : (Nat → Int64)} {ta : (Nat → Int32)} {fs : Int32} {R : Int32 × (Nat → Int32) × Int32} (hk : ∀ (v0 : Int32) (v1 : (Nat → Int32)) (v2 : Int32), k (v0, v1, v2) = some R → ∀ (H : Heap) (locs : List Loc) (ls : Array Slot), va_P (dC, dI) vwCl [(bM, .inr (7, [.int th, .long tc, .ref b0, .int pd, .ref b1, .ref b2, .ref b3, .long be, .ref b4, .ref b5, .int v2])), (b0, .inl (cI, 7, .inl mr)), (b1, .inl (cI, 400, .inl mp)), (b2, .inl (cJ, 49, .inr (.inl ch))), (b3, .inl (cJ, 49, .inr (.inl la))), (b4, .inl (cJ, 128, .inr (.inl se))), (b5, .inl (cI, 13, .inl v1))] H → va_D A [(bM, .inr (7, [.int th, .long tc, .ref b0, .int pd, .ref b1, .ref b2, .ref b3, .long be, .ref b4, .ref b5, .int v2])), (b0, .inl (cI, 7, .inl mr)), (b1, .inl (cI, 400, .inl mp)), (b2, .inl (cJ, 49, .inr (.inl ch))), (b3, .inl (cJ, 49, .inr (.inl la))), (b4, .inl (cJ, 128, .inr (.inl se))), (b5, .inl (cI, 13, .inl v1))] → va_S A s.heap H locs → lv_has ls 4 [(0, .ref bM), (1, .int v0)] → W p l e rmX7_replays s m args below meth c H locs 0 0 Q (F0 m 41 ls [])) (hq : ∀ (H : Heap) (locs : List Loc) (ls : Array Slot), va_P (dC, dI) vwCl [(bM, .inr (7, [.int th, .long tc, .ref b0, .int pd, .ref b1, .ref b2, .ref b3, .long be, .ref b4, .ref b5, .int R.2.2])), (b0, .inl (cI, 7, .inl mr)), (b1, .inl (cI, 400, .inl mp)), (b2, .inl (cJ, 49, .inr (.inl ch))), (b3, .inl (cJ, 49, .inr (.inl la))), (b4, .inl (cJ, 128, .inr (.inl se))), (b5, .inl (cI, 13, .inl R.2.1))] H → va_D A [(bM, .inr (7, [.int th, .long tc, .ref b0, .int pd, .ref b1, .ref b2, .ref b3, .long be, .ref b4, .ref b5, .int R.2.2])), (b0, .inl (cI, 7, .inl mr)), (b1, .inl (cI, 400, .inl mp)), (b2, .inl (cJ, 49, .inr (.inl ch))), (b3, .inl (cJ, 49, .inr (.inl la))), (b4, .inl (cJ, 128, .inr (.inl se))), (b5, .inl (cI, 13, .inl R.2.1))] → va_S A s.heap H locs → lv_has ls 4 [] → W p l e rmX7_replays s m args below meth c H locs 0 0 Q (F0 m 141 ls [])) (hf : b_X7_replays_135 k x1 th tc mr pd mp ch la be se ta fs = some R) : ∀ (H : Heap) (locs : List Loc) (ls : Array Slot), va_P (dC, dI) vwCl [(bM, .inr (7, [.int th, .long tc, .ref b0, .int pd, .ref b1, .ref b2, .ref b3, .long be, .ref b4, .ref b5, .int fs])), (b0, .inl (cI, 7, .inl mr)), (b1, .inl (cI, 400, .inl mp)), (b2, .inl (cJ, 49, .inr (.inl ch))), (b3, .inl (cJ, 49, .inr (.inl la))), (b4, .inl (cJ, 128, .inr (.inl se))), (b5, .inl (cI, 13, .inl ta))] H → va_D A [(bM, .inr (7, [.int th, .long tc, .ref b0, .int pd, .ref b1, .ref b2, .ref b3, .long be, .ref b4, .ref b5, .int fs])), (b0, .inl (cI, 7, .inl mr)), (b1, .inl (cI, 400, .inl mp)), (b2, .inl (cJ, 49, .inr (.inl ch))), (b3, .inl (cJ, 49, .inr (.inl la))), (b4, .inl (cJ, 128, .inr (.inl se))), (b5, .inl (cI, 13, .inl ta))] → va_S A s.heap H locs → lv_has ls 4 [(0, .ref bM), (1, .int x1)] → W p l e rmX7_replays s m args below meth c H locs 0 0 Q (F0 m 135 ls []) := by
  obtain ⟨hx, hb, hml, hown, hts, hrt, hlk, hK, hX, hA⟩ := id C0
  intro H locs ls hP hD hS hl
  unfold b_X7_replays_135 at hf
  refine lv_iinc (v := x1 + 1) (lv' := [(1, .int (x1 + 1)), (0, .ref bM)]) hx hb dX7_replays_135 hl (k := 1) rfl rfl (by decide) rfl (fun ls hl => ?_)
  refine lv_goto (tgt := 41) hx hb dX7_replays_138 (by decide) ?_
  exact hk _ _ _ hf H locs ls hP hD hS (lv_sub hl [1, 0] rfl)
set_option maxHeartbeats 4000000 in
set_option maxRecDepth 100000 in
theorem B_X7_replays_41 {p : Program} {l : Launch} {e : Env} {s : State} {m : MethodId} {args : Array Value} {below : List Frame} {meth : Method} {c : Code} {A : Nat → Prop} {dC : Nat → ClassId} {dI : Nat → Nat → Nat} {cI cJ cZ : ClassId} {bM b0 b1 b2 b3 b4 b5 : Nat} (C0 : q_C p s m args meth c (dC, dI) (q_T cI cJ cZ) A RX7 wsX7_replays cX7_replays 4 none) {Q : State → Prop} {k : (Int32 × (Nat → Int32) × Int32) → Option (Int32 × (Nat → Int32) × Int32)} {x1 : Int32} {th : Int32} {tc : Int64} {mr : (Nat → Int32)} {pd : Int32} {mp : (Nat → Int32)} {ch : (Nat → Int64)} {la : (Nat → Int64)} {be : Int64} {se : (Nat → Int64)} {ta : (Nat → Int32)} {fs : Int32} {R : Int32 × (Nat → Int32) × Int32} (hk : ∀ (v0 : Int32) (v1 : (Nat → Int32)) (v2 : Int32), k (v0, v1, v2) = some R → ∀ (H : Heap) (locs : List Loc) (ls : Array Slot), va_P (dC, dI) vwCl [(bM, .inr (7, [.int th, .long tc, .ref b0, .int pd, .ref b1, .ref b2, .ref b3, .long be, .ref b4, .ref b5, .int v2])), (b0, .inl (cI, 7, .inl mr)), (b1, .inl (cI, 400, .inl mp)), (b2, .inl (cJ, 49, .inr (.inl ch))), (b3, .inl (cJ, 49, .inr (.inl la))), (b4, .inl (cJ, 128, .inr (.inl se))), (b5, .inl (cI, 13, .inl v1))] H → va_D A [(bM, .inr (7, [.int th, .long tc, .ref b0, .int pd, .ref b1, .ref b2, .ref b3, .long be, .ref b4, .ref b5, .int v2])), (b0, .inl (cI, 7, .inl mr)), (b1, .inl (cI, 400, .inl mp)), (b2, .inl (cJ, 49, .inr (.inl ch))), (b3, .inl (cJ, 49, .inr (.inl la))), (b4, .inl (cJ, 128, .inr (.inl se))), (b5, .inl (cI, 13, .inl v1))] → va_S A s.heap H locs → lv_has ls 4 [(0, .ref bM), (1, .int v0)] → W p l e rmX7_replays s m args below meth c H locs 0 0 Q (F0 m 41 ls [])) (hq : ∀ (H : Heap) (locs : List Loc) (ls : Array Slot), va_P (dC, dI) vwCl [(bM, .inr (7, [.int th, .long tc, .ref b0, .int pd, .ref b1, .ref b2, .ref b3, .long be, .ref b4, .ref b5, .int R.2.2])), (b0, .inl (cI, 7, .inl mr)), (b1, .inl (cI, 400, .inl mp)), (b2, .inl (cJ, 49, .inr (.inl ch))), (b3, .inl (cJ, 49, .inr (.inl la))), (b4, .inl (cJ, 128, .inr (.inl se))), (b5, .inl (cI, 13, .inl R.2.1))] H → va_D A [(bM, .inr (7, [.int th, .long tc, .ref b0, .int pd, .ref b1, .ref b2, .ref b3, .long be, .ref b4, .ref b5, .int R.2.2])), (b0, .inl (cI, 7, .inl mr)), (b1, .inl (cI, 400, .inl mp)), (b2, .inl (cJ, 49, .inr (.inl ch))), (b3, .inl (cJ, 49, .inr (.inl la))), (b4, .inl (cJ, 128, .inr (.inl se))), (b5, .inl (cI, 13, .inl R.2.1))] → va_S A s.heap H locs → lv_has ls 4 [] → W p l e rmX7_replays s m args below meth c H locs 0 0 Q (F0 m 141 ls [])) (hf : b_X7_replays_41 k x1 th tc mr pd mp ch la be se ta fs = some R) : ∀ (H : Heap) (locs : List Loc) (ls : Array Slot), va_P (dC, dI) vwCl [(bM, .inr (7, [.int th, .long tc, .ref b0, .int pd, .ref b1, .ref b2, .ref b3, .long be, .ref b4, .ref b5, .int fs])), (b0, .inl (cI, 7, .inl mr)), (b1, .inl (cI, 400, .inl mp)), (b2, .inl (cJ, 49, .inr (.inl ch))), (b3, .inl (cJ, 49, .inr (.inl la))), (b4, .inl (cJ, 128, .inr (.inl se))), (b5, .inl (cI, 13, .inl ta))] H → va_D A [(bM, .inr (7, [.int th, .long tc, .ref b0, .int pd, .ref b1, .ref b2, .ref b3, .long be, .ref b4, .ref b5, .int fs])), (b0, .inl (cI, 7, .inl mr)), (b1, .inl (cI, 400, .inl mp)), (b2, .inl (cJ, 49, .inr (.inl ch))), (b3, .inl (cJ, 49, .inr (.inl la))), (b4, .inl (cJ, 128, .inr (.inl se))), (b5, .inl (cI, 13, .inl ta))] → va_S A s.heap H locs → lv_has ls 4 [(0, .ref bM), (1, .int x1)] → W p l e rmX7_replays s m args below meth c H locs 0 0 Q (F0 m 41 ls []) := by
  obtain ⟨hx, hb, hml, hown, hts, hrt, hlk, hK, hX, hA⟩ := id C0
  intro H locs ls hP hD hS hl
  unfold b_X7_replays_41 at hf
  refine lv_iload_n hx hb dX7_replays_41 rfl (lv_at hl 1 rfl) ?_
  refine lv_aload_n hx hb dX7_replays_42 rfl (lv_at hl 0 rfl) ?_
  refine q_get (TT := TX7) C0 in_X7_replays_X7 3 m_X7_replays_f44 hP 0 rfl rfl (by decide) rfl rfl dX7_replays_43 ?_
  refine lv_icmp_ge (tgt := 141) hx hb dX7_replays_46 (by decide) (fun hc1 => ?_) (fun hc1 => ?_)
  · have hf := q_if hf hc1
    obtain rfl := Option.some.inj hf
    exact hq H locs ls hP hD hS (lv_sub hl [] rfl)
  · have hf := q_nif hf hc1
    refine lv_aload_n hx hb dX7_replays_49 rfl (lv_at hl 0 rfl) ?_
    refine q_get (TT := TX7) C0 in_X7_replays_X7 4 m_X7_replays_f13 hP 0 rfl rfl (by decide) rfl rfl dX7_replays_50 ?_
    refine lv_iload_n hx hb dX7_replays_53 rfl (lv_at hl 1 rfl) ?_
    obtain ⟨hin2, hf⟩ := q_gd hf
    refine q_iald (v := mp (Int32.toNatClampNeg x1)) C0 hP 2 0 rfl rfl hin2 rfl dX7_replays_54 ?_
    refine lv_istore_n (lv' := [(2, .int (mp (Int32.toNatClampNeg x1))), (0, .ref bM), (1, .int x1)]) hx hb dX7_replays_55 rfl hl (by decide) rfl (fun ls hl => ?_)
    refine lv_aload_n hx hb dX7_replays_56 rfl (lv_at hl 1 rfl) ?_
    refine q_get (TT := TX7) C0 in_X7_replays_X7 9 m_X7_replays_f26 hP 0 rfl rfl (by decide) rfl rfl dX7_replays_57 ?_
    refine lv_iload_n hx hb dX7_replays_60 rfl (lv_at hl 0 rfl) ?_
    refine lv_dup2_11 hx hb dX7_replays_61 rfl rfl ?_
    obtain ⟨hin3, hf⟩ := q_gd hf
    refine q_iald (v := ta (Int32.toNatClampNeg (mp (Int32.toNatClampNeg x1)))) C0 hP 6 0 rfl rfl hin3 rfl dX7_replays_62 ?_
    refine lv_iconst (v := 1) hx hb dX7_replays_63 (by decide) ?_
    refine lv_iadd hx hb dX7_replays_64 ?_
    obtain ⟨hin4, hf⟩ := q_gd hf
    refine q_iast (g := upd ta (Int32.toNatClampNeg (mp (Int32.toNatClampNeg x1))) ((ta (Int32.toNatClampNeg (mp (Int32.toNatClampNeg x1)))) + 1)) C0 hP hD hS 6 0 rfl rfl hin4 rfl dX7_replays_65 (fun H locs hP hD hS => ?_)
    have hP : va_P (dC, dI) vwCl [(bM, .inr (7, [.int th, .long tc, .ref b0, .int pd, .ref b1, .ref b2, .ref b3, .long be, .ref b4, .ref b5, .int fs])), (b0, .inl (cI, 7, .inl mr)), (b1, .inl (cI, 400, .inl mp)), (b2, .inl (cJ, 49, .inr (.inl ch))), (b3, .inl (cJ, 49, .inr (.inl la))), (b4, .inl (cJ, 128, .inr (.inl se))), (b5, .inl (cI, 13, .inl (upd ta (Int32.toNatClampNeg (mp (Int32.toNatClampNeg x1))) ((ta (Int32.toNatClampNeg (mp (Int32.toNatClampNeg x1)))) + 1))))] H := hP
    have hD : va_D A [(bM, .inr (7, [.int th, .long tc, .ref b0, .int pd, .ref b1, .ref b2, .ref b3, .long be, .ref b4, .ref b5, .int fs])), (b0, .inl (cI, 7, .inl mr)), (b1, .inl (cI, 400, .inl mp)), (b2, .inl (cJ, 49, .inr (.inl ch))), (b3, .inl (cJ, 49, .inr (.inl la))), (b4, .inl (cJ, 128, .inr (.inl se))), (b5, .inl (cI, 13, .inl (upd ta (Int32.toNatClampNeg (mp (Int32.toNatClampNeg x1))) ((ta (Int32.toNatClampNeg (mp (Int32.toNatClampNeg x1)))) + 1))))] := hD
    refine lv_aload_n hx hb dX7_replays_66 rfl (lv_at hl 1 rfl) ?_
    refine q_get (TT := TX7) C0 in_X7_replays_X7 9 m_X7_replays_f26 hP 0 rfl rfl (by decide) rfl rfl dX7_replays_67 ?_
    refine lv_bipush (v := 7) hx hb dX7_replays_70 (by decide) ?_
    refine lv_dup2_11 hx hb dX7_replays_72 rfl rfl ?_
    refine q_iald (v := (upd ta (Int32.toNatClampNeg (mp (Int32.toNatClampNeg x1))) ((ta (Int32.toNatClampNeg (mp (Int32.toNatClampNeg x1)))) + 1)) 7) C0 hP 6 0 rfl rfl (by unfold vp_in; decide) rfl dX7_replays_73 ?_
    refine lv_iconst (v := 1) hx hb dX7_replays_74 (by decide) ?_
    refine lv_iadd hx hb dX7_replays_75 ?_
    refine q_iast (g := upd (upd ta (Int32.toNatClampNeg (mp (Int32.toNatClampNeg x1))) ((ta (Int32.toNatClampNeg (mp (Int32.toNatClampNeg x1)))) + 1)) 7 (((upd ta (Int32.toNatClampNeg (mp (Int32.toNatClampNeg x1))) ((ta (Int32.toNatClampNeg (mp (Int32.toNatClampNeg x1)))) + 1)) 7) + 1)) C0 hP hD hS 6 0 rfl rfl (by unfold vp_in; decide) rfl dX7_replays_76 (fun H locs hP hD hS => ?_)
    have hP : va_P (dC, dI) vwCl [(bM, .inr (7, [.int th, .long tc, .ref b0, .int pd, .ref b1, .ref b2, .ref b3, .long be, .ref b4, .ref b5, .int fs])), (b0, .inl (cI, 7, .inl mr)), (b1, .inl (cI, 400, .inl mp)), (b2, .inl (cJ, 49, .inr (.inl ch))), (b3, .inl (cJ, 49, .inr (.inl la))), (b4, .inl (cJ, 128, .inr (.inl se))), (b5, .inl (cI, 13, .inl (upd (upd ta (Int32.toNatClampNeg (mp (Int32.toNatClampNeg x1))) ((ta (Int32.toNatClampNeg (mp (Int32.toNatClampNeg x1)))) + 1)) 7 (((upd ta (Int32.toNatClampNeg (mp (Int32.toNatClampNeg x1))) ((ta (Int32.toNatClampNeg (mp (Int32.toNatClampNeg x1)))) + 1)) 7) + 1))))] H := hP
    have hD : va_D A [(bM, .inr (7, [.int th, .long tc, .ref b0, .int pd, .ref b1, .ref b2, .ref b3, .long be, .ref b4, .ref b5, .int fs])), (b0, .inl (cI, 7, .inl mr)), (b1, .inl (cI, 400, .inl mp)), (b2, .inl (cJ, 49, .inr (.inl ch))), (b3, .inl (cJ, 49, .inr (.inl la))), (b4, .inl (cJ, 128, .inr (.inl se))), (b5, .inl (cI, 13, .inl (upd (upd ta (Int32.toNatClampNeg (mp (Int32.toNatClampNeg x1))) ((ta (Int32.toNatClampNeg (mp (Int32.toNatClampNeg x1)))) + 1)) 7 (((upd ta (Int32.toNatClampNeg (mp (Int32.toNatClampNeg x1))) ((ta (Int32.toNatClampNeg (mp (Int32.toNatClampNeg x1)))) + 1)) 7) + 1))))] := hD
    refine lv_aload_n hx hb dX7_replays_77 rfl (lv_at hl 1 rfl) ?_
    refine q_get (TT := TX7) C0 in_X7_replays_X7 9 m_X7_replays_f26 hP 0 rfl rfl (by decide) rfl rfl dX7_replays_78 ?_
    refine lv_bipush (v := 8) hx hb dX7_replays_81 (by decide) ?_
    refine lv_iconst (v := 2) hx hb dX7_replays_83 (by decide) ?_
    refine lv_aload_n hx hb dX7_replays_84 rfl (lv_at hl 1 rfl) ?_
    refine q_get (TT := TX7) C0 in_X7_replays_X7 9 m_X7_replays_f26 hP 0 rfl rfl (by decide) rfl rfl dX7_replays_85 ?_
    refine lv_bipush (v := 6) hx hb dX7_replays_88 (by decide) ?_
    refine q_iald (v := (upd (upd ta (Int32.toNatClampNeg (mp (Int32.toNatClampNeg x1))) ((ta (Int32.toNatClampNeg (mp (Int32.toNatClampNeg x1)))) + 1)) 7 (((upd ta (Int32.toNatClampNeg (mp (Int32.toNatClampNeg x1))) ((ta (Int32.toNatClampNeg (mp (Int32.toNatClampNeg x1)))) + 1)) 7) + 1)) 6) C0 hP 6 0 rfl rfl (by unfold vp_in; decide) rfl dX7_replays_90 ?_
    refine lv_imul hx hb dX7_replays_91 ?_
    refine lv_iadd hx hb dX7_replays_92 ?_
    refine lv_iload_n hx hb dX7_replays_93 rfl (lv_at hl 0 rfl) ?_
    refine lv_iadd hx hb dX7_replays_94 ?_
    refine lv_dup2_11 hx hb dX7_replays_95 rfl rfl ?_
    obtain ⟨hin5, hf⟩ := q_gd hf
    refine q_iald (v := (upd (upd ta (Int32.toNatClampNeg (mp (Int32.toNatClampNeg x1))) ((ta (Int32.toNatClampNeg (mp (Int32.toNatClampNeg x1)))) + 1)) 7 (((upd ta (Int32.toNatClampNeg (mp (Int32.toNatClampNeg x1))) ((ta (Int32.toNatClampNeg (mp (Int32.toNatClampNeg x1)))) + 1)) 7) + 1)) (Int32.toNatClampNeg ((8 + (2 * ((upd (upd ta (Int32.toNatClampNeg (mp (Int32.toNatClampNeg x1))) ((ta (Int32.toNatClampNeg (mp (Int32.toNatClampNeg x1)))) + 1)) 7 (((upd ta (Int32.toNatClampNeg (mp (Int32.toNatClampNeg x1))) ((ta (Int32.toNatClampNeg (mp (Int32.toNatClampNeg x1)))) + 1)) 7) + 1)) 6))) + (mp (Int32.toNatClampNeg x1))))) C0 hP 6 0 rfl rfl hin5 rfl dX7_replays_96 ?_
    refine lv_iconst (v := 1) hx hb dX7_replays_97 (by decide) ?_
    refine lv_iadd hx hb dX7_replays_98 ?_
    obtain ⟨hin6, hf⟩ := q_gd hf
    refine q_iast (g := upd (upd (upd ta (Int32.toNatClampNeg (mp (Int32.toNatClampNeg x1))) ((ta (Int32.toNatClampNeg (mp (Int32.toNatClampNeg x1)))) + 1)) 7 (((upd ta (Int32.toNatClampNeg (mp (Int32.toNatClampNeg x1))) ((ta (Int32.toNatClampNeg (mp (Int32.toNatClampNeg x1)))) + 1)) 7) + 1)) (Int32.toNatClampNeg ((8 + (2 * ((upd (upd ta (Int32.toNatClampNeg (mp (Int32.toNatClampNeg x1))) ((ta (Int32.toNatClampNeg (mp (Int32.toNatClampNeg x1)))) + 1)) 7 (((upd ta (Int32.toNatClampNeg (mp (Int32.toNatClampNeg x1))) ((ta (Int32.toNatClampNeg (mp (Int32.toNatClampNeg x1)))) + 1)) 7) + 1)) 6))) + (mp (Int32.toNatClampNeg x1)))) (((upd (upd ta (Int32.toNatClampNeg (mp (Int32.toNatClampNeg x1))) ((ta (Int32.toNatClampNeg (mp (Int32.toNatClampNeg x1)))) + 1)) 7 (((upd ta (Int32.toNatClampNeg (mp (Int32.toNatClampNeg x1))) ((ta (Int32.toNatClampNeg (mp (Int32.toNatClampNeg x1)))) + 1)) 7) + 1)) (Int32.toNatClampNeg ((8 + (2 * ((upd (upd ta (Int32.toNatClampNeg (mp (Int32.toNatClampNeg x1))) ((ta (Int32.toNatClampNeg (mp (Int32.toNatClampNeg x1)))) + 1)) 7 (((upd ta (Int32.toNatClampNeg (mp (Int32.toNatClampNeg x1))) ((ta (Int32.toNatClampNeg (mp (Int32.toNatClampNeg x1)))) + 1)) 7) + 1)) 6))) + (mp (Int32.toNatClampNeg x1))))) + 1)) C0 hP hD hS 6 0 rfl rfl hin6 rfl dX7_replays_99 (fun H locs hP hD hS => ?_)
    have hP : va_P (dC, dI) vwCl [(bM, .inr (7, [.int th, .long tc, .ref b0, .int pd, .ref b1, .ref b2, .ref b3, .long be, .ref b4, .ref b5, .int fs])), (b0, .inl (cI, 7, .inl mr)), (b1, .inl (cI, 400, .inl mp)), (b2, .inl (cJ, 49, .inr (.inl ch))), (b3, .inl (cJ, 49, .inr (.inl la))), (b4, .inl (cJ, 128, .inr (.inl se))), (b5, .inl (cI, 13, .inl (upd (upd (upd ta (Int32.toNatClampNeg (mp (Int32.toNatClampNeg x1))) ((ta (Int32.toNatClampNeg (mp (Int32.toNatClampNeg x1)))) + 1)) 7 (((upd ta (Int32.toNatClampNeg (mp (Int32.toNatClampNeg x1))) ((ta (Int32.toNatClampNeg (mp (Int32.toNatClampNeg x1)))) + 1)) 7) + 1)) (Int32.toNatClampNeg ((8 + (2 * ((upd (upd ta (Int32.toNatClampNeg (mp (Int32.toNatClampNeg x1))) ((ta (Int32.toNatClampNeg (mp (Int32.toNatClampNeg x1)))) + 1)) 7 (((upd ta (Int32.toNatClampNeg (mp (Int32.toNatClampNeg x1))) ((ta (Int32.toNatClampNeg (mp (Int32.toNatClampNeg x1)))) + 1)) 7) + 1)) 6))) + (mp (Int32.toNatClampNeg x1)))) (((upd (upd ta (Int32.toNatClampNeg (mp (Int32.toNatClampNeg x1))) ((ta (Int32.toNatClampNeg (mp (Int32.toNatClampNeg x1)))) + 1)) 7 (((upd ta (Int32.toNatClampNeg (mp (Int32.toNatClampNeg x1))) ((ta (Int32.toNatClampNeg (mp (Int32.toNatClampNeg x1)))) + 1)) 7) + 1)) (Int32.toNatClampNeg ((8 + (2 * ((upd (upd ta (Int32.toNatClampNeg (mp (Int32.toNatClampNeg x1))) ((ta (Int32.toNatClampNeg (mp (Int32.toNatClampNeg x1)))) + 1)) 7 (((upd ta (Int32.toNatClampNeg (mp (Int32.toNatClampNeg x1))) ((ta (Int32.toNatClampNeg (mp (Int32.toNatClampNeg x1)))) + 1)) 7) + 1)) 6))) + (mp (Int32.toNatClampNeg x1))))) + 1))))] H := hP
    have hD : va_D A [(bM, .inr (7, [.int th, .long tc, .ref b0, .int pd, .ref b1, .ref b2, .ref b3, .long be, .ref b4, .ref b5, .int fs])), (b0, .inl (cI, 7, .inl mr)), (b1, .inl (cI, 400, .inl mp)), (b2, .inl (cJ, 49, .inr (.inl ch))), (b3, .inl (cJ, 49, .inr (.inl la))), (b4, .inl (cJ, 128, .inr (.inl se))), (b5, .inl (cI, 13, .inl (upd (upd (upd ta (Int32.toNatClampNeg (mp (Int32.toNatClampNeg x1))) ((ta (Int32.toNatClampNeg (mp (Int32.toNatClampNeg x1)))) + 1)) 7 (((upd ta (Int32.toNatClampNeg (mp (Int32.toNatClampNeg x1))) ((ta (Int32.toNatClampNeg (mp (Int32.toNatClampNeg x1)))) + 1)) 7) + 1)) (Int32.toNatClampNeg ((8 + (2 * ((upd (upd ta (Int32.toNatClampNeg (mp (Int32.toNatClampNeg x1))) ((ta (Int32.toNatClampNeg (mp (Int32.toNatClampNeg x1)))) + 1)) 7 (((upd ta (Int32.toNatClampNeg (mp (Int32.toNatClampNeg x1))) ((ta (Int32.toNatClampNeg (mp (Int32.toNatClampNeg x1)))) + 1)) 7) + 1)) 6))) + (mp (Int32.toNatClampNeg x1)))) (((upd (upd ta (Int32.toNatClampNeg (mp (Int32.toNatClampNeg x1))) ((ta (Int32.toNatClampNeg (mp (Int32.toNatClampNeg x1)))) + 1)) 7 (((upd ta (Int32.toNatClampNeg (mp (Int32.toNatClampNeg x1))) ((ta (Int32.toNatClampNeg (mp (Int32.toNatClampNeg x1)))) + 1)) 7) + 1)) (Int32.toNatClampNeg ((8 + (2 * ((upd (upd ta (Int32.toNatClampNeg (mp (Int32.toNatClampNeg x1))) ((ta (Int32.toNatClampNeg (mp (Int32.toNatClampNeg x1)))) + 1)) 7 (((upd ta (Int32.toNatClampNeg (mp (Int32.toNatClampNeg x1))) ((ta (Int32.toNatClampNeg (mp (Int32.toNatClampNeg x1)))) + 1)) 7) + 1)) 6))) + (mp (Int32.toNatClampNeg x1))))) + 1))))] := hD
    refine lv_aload_n hx hb dX7_replays_100 rfl (lv_at hl 1 rfl) ?_
    refine lv_aload_n hx hb dX7_replays_101 rfl (lv_at hl 1 rfl) ?_
    refine q_get (TT := TX7) C0 in_X7_replays_X7 2 m_X7_replays_f7 hP 0 rfl rfl (by decide) rfl rfl dX7_replays_102 ?_
    refine lv_bipush (v := 6) hx hb dX7_replays_105 (by decide) ?_
    refine q_iald (v := mr 6) C0 hP 1 0 rfl rfl (by unfold vp_in; decide) rfl dX7_replays_107 ?_
    refine lv_aload_n hx hb dX7_replays_108 rfl (lv_at hl 1 rfl) ?_
    refine q_get (TT := TX7) C0 in_X7_replays_X7 9 m_X7_replays_f26 hP 0 rfl rfl (by decide) rfl rfl dX7_replays_109 ?_
    refine lv_iconst (v := 0) hx hb dX7_replays_112 (by decide) ?_
    refine q_iald (v := (upd (upd (upd ta (Int32.toNatClampNeg (mp (Int32.toNatClampNeg x1))) ((ta (Int32.toNatClampNeg (mp (Int32.toNatClampNeg x1)))) + 1)) 7 (((upd ta (Int32.toNatClampNeg (mp (Int32.toNatClampNeg x1))) ((ta (Int32.toNatClampNeg (mp (Int32.toNatClampNeg x1)))) + 1)) 7) + 1)) (Int32.toNatClampNeg ((8 + (2 * ((upd (upd ta (Int32.toNatClampNeg (mp (Int32.toNatClampNeg x1))) ((ta (Int32.toNatClampNeg (mp (Int32.toNatClampNeg x1)))) + 1)) 7 (((upd ta (Int32.toNatClampNeg (mp (Int32.toNatClampNeg x1))) ((ta (Int32.toNatClampNeg (mp (Int32.toNatClampNeg x1)))) + 1)) 7) + 1)) 6))) + (mp (Int32.toNatClampNeg x1)))) (((upd (upd ta (Int32.toNatClampNeg (mp (Int32.toNatClampNeg x1))) ((ta (Int32.toNatClampNeg (mp (Int32.toNatClampNeg x1)))) + 1)) 7 (((upd ta (Int32.toNatClampNeg (mp (Int32.toNatClampNeg x1))) ((ta (Int32.toNatClampNeg (mp (Int32.toNatClampNeg x1)))) + 1)) 7) + 1)) (Int32.toNatClampNeg ((8 + (2 * ((upd (upd ta (Int32.toNatClampNeg (mp (Int32.toNatClampNeg x1))) ((ta (Int32.toNatClampNeg (mp (Int32.toNatClampNeg x1)))) + 1)) 7 (((upd ta (Int32.toNatClampNeg (mp (Int32.toNatClampNeg x1))) ((ta (Int32.toNatClampNeg (mp (Int32.toNatClampNeg x1)))) + 1)) 7) + 1)) 6))) + (mp (Int32.toNatClampNeg x1))))) + 1)) 0) C0 hP 6 0 rfl rfl (by unfold vp_in; decide) rfl dX7_replays_113 ?_
    refine lv_aload_n hx hb dX7_replays_114 rfl (lv_at hl 1 rfl) ?_
    refine q_get (TT := TX7) C0 in_X7_replays_X7 9 m_X7_replays_f26 hP 0 rfl rfl (by decide) rfl rfl dX7_replays_115 ?_
    refine lv_iconst (v := 1) hx hb dX7_replays_118 (by decide) ?_
    refine q_iald (v := (upd (upd (upd ta (Int32.toNatClampNeg (mp (Int32.toNatClampNeg x1))) ((ta (Int32.toNatClampNeg (mp (Int32.toNatClampNeg x1)))) + 1)) 7 (((upd ta (Int32.toNatClampNeg (mp (Int32.toNatClampNeg x1))) ((ta (Int32.toNatClampNeg (mp (Int32.toNatClampNeg x1)))) + 1)) 7) + 1)) (Int32.toNatClampNeg ((8 + (2 * ((upd (upd ta (Int32.toNatClampNeg (mp (Int32.toNatClampNeg x1))) ((ta (Int32.toNatClampNeg (mp (Int32.toNatClampNeg x1)))) + 1)) 7 (((upd ta (Int32.toNatClampNeg (mp (Int32.toNatClampNeg x1))) ((ta (Int32.toNatClampNeg (mp (Int32.toNatClampNeg x1)))) + 1)) 7) + 1)) 6))) + (mp (Int32.toNatClampNeg x1)))) (((upd (upd ta (Int32.toNatClampNeg (mp (Int32.toNatClampNeg x1))) ((ta (Int32.toNatClampNeg (mp (Int32.toNatClampNeg x1)))) + 1)) 7 (((upd ta (Int32.toNatClampNeg (mp (Int32.toNatClampNeg x1))) ((ta (Int32.toNatClampNeg (mp (Int32.toNatClampNeg x1)))) + 1)) 7) + 1)) (Int32.toNatClampNeg ((8 + (2 * ((upd (upd ta (Int32.toNatClampNeg (mp (Int32.toNatClampNeg x1))) ((ta (Int32.toNatClampNeg (mp (Int32.toNatClampNeg x1)))) + 1)) 7 (((upd ta (Int32.toNatClampNeg (mp (Int32.toNatClampNeg x1))) ((ta (Int32.toNatClampNeg (mp (Int32.toNatClampNeg x1)))) + 1)) 7) + 1)) 6))) + (mp (Int32.toNatClampNeg x1))))) + 1)) 1) C0 hP 6 0 rfl rfl (by unfold vp_in; decide) rfl dX7_replays_119 ?_
    obtain ⟨r7, hg8, hf⟩ := q_e1 hf
    refine q_endI (wc := [(bM, .inr (7, [.int th, .long tc, .ref b0, .int pd, .ref b1, .ref b2, .ref b3, .long be, .ref b4, .ref b5, .int fs])), (b0, .inl (cI, 7, .inl mr)), (b1, .inl (cI, 400, .inl mp)), (b2, .inl (cJ, 49, .inr (.inl ch))), (b3, .inl (cJ, 49, .inr (.inl la))), (b4, .inl (cJ, 128, .inr (.inl se))), (b5, .inl (cI, 13, .inl (upd (upd (upd ta (Int32.toNatClampNeg (mp (Int32.toNatClampNeg x1))) ((ta (Int32.toNatClampNeg (mp (Int32.toNatClampNeg x1)))) + 1)) 7 (((upd ta (Int32.toNatClampNeg (mp (Int32.toNatClampNeg x1))) ((ta (Int32.toNatClampNeg (mp (Int32.toNatClampNeg x1)))) + 1)) 7) + 1)) (Int32.toNatClampNeg ((8 + (2 * ((upd (upd ta (Int32.toNatClampNeg (mp (Int32.toNatClampNeg x1))) ((ta (Int32.toNatClampNeg (mp (Int32.toNatClampNeg x1)))) + 1)) 7 (((upd ta (Int32.toNatClampNeg (mp (Int32.toNatClampNeg x1))) ((ta (Int32.toNatClampNeg (mp (Int32.toNatClampNeg x1)))) + 1)) 7) + 1)) 6))) + (mp (Int32.toNatClampNeg x1)))) (((upd (upd ta (Int32.toNatClampNeg (mp (Int32.toNatClampNeg x1))) ((ta (Int32.toNatClampNeg (mp (Int32.toNatClampNeg x1)))) + 1)) 7 (((upd ta (Int32.toNatClampNeg (mp (Int32.toNatClampNeg x1))) ((ta (Int32.toNatClampNeg (mp (Int32.toNatClampNeg x1)))) + 1)) 7) + 1)) (Int32.toNatClampNeg ((8 + (2 * ((upd (upd ta (Int32.toNatClampNeg (mp (Int32.toNatClampNeg x1))) ((ta (Int32.toNatClampNeg (mp (Int32.toNatClampNeg x1)))) + 1)) 7 (((upd ta (Int32.toNatClampNeg (mp (Int32.toNatClampNeg x1))) ((ta (Int32.toNatClampNeg (mp (Int32.toNatClampNeg x1)))) + 1)) 7) + 1)) 6))) + (mp (Int32.toNatClampNeg x1))))) + 1))))]) (wr := []) (w1 := [(bM, .inr (7, [.int th, .long tc, .ref b0, .int pd, .ref b1, .ref b2, .ref b3, .long be, .ref b4, .ref b5, .int fs])), (b0, .inl (cI, 7, .inl mr)), (b1, .inl (cI, 400, .inl mp)), (b2, .inl (cJ, 49, .inr (.inl ch))), (b3, .inl (cJ, 49, .inr (.inl la))), (b4, .inl (cJ, 128, .inr (.inl se))), (b5, .inl (cI, 13, .inl (upd (upd (upd ta (Int32.toNatClampNeg (mp (Int32.toNatClampNeg x1))) ((ta (Int32.toNatClampNeg (mp (Int32.toNatClampNeg x1)))) + 1)) 7 (((upd ta (Int32.toNatClampNeg (mp (Int32.toNatClampNeg x1))) ((ta (Int32.toNatClampNeg (mp (Int32.toNatClampNeg x1)))) + 1)) 7) + 1)) (Int32.toNatClampNeg ((8 + (2 * ((upd (upd ta (Int32.toNatClampNeg (mp (Int32.toNatClampNeg x1))) ((ta (Int32.toNatClampNeg (mp (Int32.toNatClampNeg x1)))) + 1)) 7 (((upd ta (Int32.toNatClampNeg (mp (Int32.toNatClampNeg x1))) ((ta (Int32.toNatClampNeg (mp (Int32.toNatClampNeg x1)))) + 1)) 7) + 1)) 6))) + (mp (Int32.toNatClampNeg x1)))) (((upd (upd ta (Int32.toNatClampNeg (mp (Int32.toNatClampNeg x1))) ((ta (Int32.toNatClampNeg (mp (Int32.toNatClampNeg x1)))) + 1)) 7 (((upd ta (Int32.toNatClampNeg (mp (Int32.toNatClampNeg x1))) ((ta (Int32.toNatClampNeg (mp (Int32.toNatClampNeg x1)))) + 1)) 7) + 1)) (Int32.toNatClampNeg ((8 + (2 * ((upd (upd ta (Int32.toNatClampNeg (mp (Int32.toNatClampNeg x1))) ((ta (Int32.toNatClampNeg (mp (Int32.toNatClampNeg x1)))) + 1)) 7 (((upd ta (Int32.toNatClampNeg (mp (Int32.toNatClampNeg x1))) ((ta (Int32.toNatClampNeg (mp (Int32.toNatClampNeg x1)))) + 1)) 7) + 1)) 6))) + (mp (Int32.toNatClampNeg x1))))) + 1))))]) (rv := r7) C0 hP hD hS [0, 1, 2, 3, 4, 5, 6] [] rfl rfl (by decide) (by decide) (q_runV (TT := TX7) (N := 11) (ci := 7) (q0 := 0) C0 (c_X7_wonOf (l := l) hg8) (cwV 3 hts gX7_replays_X7_wonOf rfl rfl rfl (by decide +kernel) ⟨Nat.le_of_ble_eq_true rfl, Nat.le_of_ble_eq_true rfl⟩) hP hD hS [0, 1, 2, 3, 4, 5, 6] rfl (by decide) rfl rfl rfl rfl hl.1 (Nat.le_of_ble_eq_true rfl) dX7_replays_120) (fun H locs hP hD hS => ?_)
    have hP : va_P (dC, dI) vwCl [(bM, .inr (7, [.int th, .long tc, .ref b0, .int pd, .ref b1, .ref b2, .ref b3, .long be, .ref b4, .ref b5, .int fs])), (b0, .inl (cI, 7, .inl mr)), (b1, .inl (cI, 400, .inl mp)), (b2, .inl (cJ, 49, .inr (.inl ch))), (b3, .inl (cJ, 49, .inr (.inl la))), (b4, .inl (cJ, 128, .inr (.inl se))), (b5, .inl (cI, 13, .inl (upd (upd (upd ta (Int32.toNatClampNeg (mp (Int32.toNatClampNeg x1))) ((ta (Int32.toNatClampNeg (mp (Int32.toNatClampNeg x1)))) + 1)) 7 (((upd ta (Int32.toNatClampNeg (mp (Int32.toNatClampNeg x1))) ((ta (Int32.toNatClampNeg (mp (Int32.toNatClampNeg x1)))) + 1)) 7) + 1)) (Int32.toNatClampNeg ((8 + (2 * ((upd (upd ta (Int32.toNatClampNeg (mp (Int32.toNatClampNeg x1))) ((ta (Int32.toNatClampNeg (mp (Int32.toNatClampNeg x1)))) + 1)) 7 (((upd ta (Int32.toNatClampNeg (mp (Int32.toNatClampNeg x1))) ((ta (Int32.toNatClampNeg (mp (Int32.toNatClampNeg x1)))) + 1)) 7) + 1)) 6))) + (mp (Int32.toNatClampNeg x1)))) (((upd (upd ta (Int32.toNatClampNeg (mp (Int32.toNatClampNeg x1))) ((ta (Int32.toNatClampNeg (mp (Int32.toNatClampNeg x1)))) + 1)) 7 (((upd ta (Int32.toNatClampNeg (mp (Int32.toNatClampNeg x1))) ((ta (Int32.toNatClampNeg (mp (Int32.toNatClampNeg x1)))) + 1)) 7) + 1)) (Int32.toNatClampNeg ((8 + (2 * ((upd (upd ta (Int32.toNatClampNeg (mp (Int32.toNatClampNeg x1))) ((ta (Int32.toNatClampNeg (mp (Int32.toNatClampNeg x1)))) + 1)) 7 (((upd ta (Int32.toNatClampNeg (mp (Int32.toNatClampNeg x1))) ((ta (Int32.toNatClampNeg (mp (Int32.toNatClampNeg x1)))) + 1)) 7) + 1)) 6))) + (mp (Int32.toNatClampNeg x1))))) + 1))))] H := hP
    have hD : va_D A [(bM, .inr (7, [.int th, .long tc, .ref b0, .int pd, .ref b1, .ref b2, .ref b3, .long be, .ref b4, .ref b5, .int fs])), (b0, .inl (cI, 7, .inl mr)), (b1, .inl (cI, 400, .inl mp)), (b2, .inl (cJ, 49, .inr (.inl ch))), (b3, .inl (cJ, 49, .inr (.inl la))), (b4, .inl (cJ, 128, .inr (.inl se))), (b5, .inl (cI, 13, .inl (upd (upd (upd ta (Int32.toNatClampNeg (mp (Int32.toNatClampNeg x1))) ((ta (Int32.toNatClampNeg (mp (Int32.toNatClampNeg x1)))) + 1)) 7 (((upd ta (Int32.toNatClampNeg (mp (Int32.toNatClampNeg x1))) ((ta (Int32.toNatClampNeg (mp (Int32.toNatClampNeg x1)))) + 1)) 7) + 1)) (Int32.toNatClampNeg ((8 + (2 * ((upd (upd ta (Int32.toNatClampNeg (mp (Int32.toNatClampNeg x1))) ((ta (Int32.toNatClampNeg (mp (Int32.toNatClampNeg x1)))) + 1)) 7 (((upd ta (Int32.toNatClampNeg (mp (Int32.toNatClampNeg x1))) ((ta (Int32.toNatClampNeg (mp (Int32.toNatClampNeg x1)))) + 1)) 7) + 1)) 6))) + (mp (Int32.toNatClampNeg x1)))) (((upd (upd ta (Int32.toNatClampNeg (mp (Int32.toNatClampNeg x1))) ((ta (Int32.toNatClampNeg (mp (Int32.toNatClampNeg x1)))) + 1)) 7 (((upd ta (Int32.toNatClampNeg (mp (Int32.toNatClampNeg x1))) ((ta (Int32.toNatClampNeg (mp (Int32.toNatClampNeg x1)))) + 1)) 7) + 1)) (Int32.toNatClampNeg ((8 + (2 * ((upd (upd ta (Int32.toNatClampNeg (mp (Int32.toNatClampNeg x1))) ((ta (Int32.toNatClampNeg (mp (Int32.toNatClampNeg x1)))) + 1)) 7 (((upd ta (Int32.toNatClampNeg (mp (Int32.toNatClampNeg x1))) ((ta (Int32.toNatClampNeg (mp (Int32.toNatClampNeg x1)))) + 1)) 7) + 1)) 6))) + (mp (Int32.toNatClampNeg x1))))) + 1))))] := hD
    refine lv_istore_n (lv' := [(3, .int r7), (2, .int (mp (Int32.toNatClampNeg x1))), (0, .ref bM), (1, .int x1)]) hx hb dX7_replays_123 rfl hl (by decide) rfl (fun ls hl => ?_)
    refine lv_iload_n hx hb dX7_replays_124 rfl (lv_at hl 0 rfl) ?_
    refine lv_if_le (tgt := 135) hx hb dX7_replays_125 (by decide) (fun hc9 => ?_) (fun hc9 => ?_)
    · have hf := q_if hf hc9
      exact B_X7_replays_135 C0 hk hq hf H locs ls hP hD hS (lv_sub hl [2, 3] rfl)
    · have hf := q_nif hf hc9
      refine lv_aload_n hx hb dX7_replays_128 rfl (lv_at hl 2 rfl) ?_
      refine lv_iload_n hx hb dX7_replays_129 rfl (lv_at hl 0 rfl) ?_
      refine lv_iconst (v := 1) hx hb dX7_replays_130 (by decide) ?_
      refine lv_isub hx hb dX7_replays_131 ?_
      obtain ⟨ta10, fs11, hg12, hf⟩ := q_e2 hf
      refine q_endV (wc := [(bM, .inr (7, [.int th, .long tc, .ref b0, .int pd, .ref b1, .ref b2, .ref b3, .long be, .ref b4, .ref b5, .int fs])), (b0, .inl (cI, 7, .inl mr)), (b1, .inl (cI, 400, .inl mp)), (b2, .inl (cJ, 49, .inr (.inl ch))), (b3, .inl (cJ, 49, .inr (.inl la))), (b4, .inl (cJ, 128, .inr (.inl se))), (b5, .inl (cI, 13, .inl (upd (upd (upd ta (Int32.toNatClampNeg (mp (Int32.toNatClampNeg x1))) ((ta (Int32.toNatClampNeg (mp (Int32.toNatClampNeg x1)))) + 1)) 7 (((upd ta (Int32.toNatClampNeg (mp (Int32.toNatClampNeg x1))) ((ta (Int32.toNatClampNeg (mp (Int32.toNatClampNeg x1)))) + 1)) 7) + 1)) (Int32.toNatClampNeg ((8 + (2 * ((upd (upd ta (Int32.toNatClampNeg (mp (Int32.toNatClampNeg x1))) ((ta (Int32.toNatClampNeg (mp (Int32.toNatClampNeg x1)))) + 1)) 7 (((upd ta (Int32.toNatClampNeg (mp (Int32.toNatClampNeg x1))) ((ta (Int32.toNatClampNeg (mp (Int32.toNatClampNeg x1)))) + 1)) 7) + 1)) 6))) + (mp (Int32.toNatClampNeg x1)))) (((upd (upd ta (Int32.toNatClampNeg (mp (Int32.toNatClampNeg x1))) ((ta (Int32.toNatClampNeg (mp (Int32.toNatClampNeg x1)))) + 1)) 7 (((upd ta (Int32.toNatClampNeg (mp (Int32.toNatClampNeg x1))) ((ta (Int32.toNatClampNeg (mp (Int32.toNatClampNeg x1)))) + 1)) 7) + 1)) (Int32.toNatClampNeg ((8 + (2 * ((upd (upd ta (Int32.toNatClampNeg (mp (Int32.toNatClampNeg x1))) ((ta (Int32.toNatClampNeg (mp (Int32.toNatClampNeg x1)))) + 1)) 7 (((upd ta (Int32.toNatClampNeg (mp (Int32.toNatClampNeg x1))) ((ta (Int32.toNatClampNeg (mp (Int32.toNatClampNeg x1)))) + 1)) 7) + 1)) 6))) + (mp (Int32.toNatClampNeg x1))))) + 1))))]) (wr := []) (w1 := [(bM, .inr (7, [.int th, .long tc, .ref b0, .int pd, .ref b1, .ref b2, .ref b3, .long be, .ref b4, .ref b5, .int fs11])), (b0, .inl (cI, 7, .inl mr)), (b1, .inl (cI, 400, .inl mp)), (b2, .inl (cJ, 49, .inr (.inl ch))), (b3, .inl (cJ, 49, .inr (.inl la))), (b4, .inl (cJ, 128, .inr (.inl se))), (b5, .inl (cI, 13, .inl ta10))]) C0 hP hD hS [0, 1, 2, 3, 4, 5, 6] [] rfl rfl (by decide) (by decide) (q_runV (TT := TX7) (N := 11) (ci := 7) (q0 := 0) C0 (c_X7_winsGame (l := l) hg12) (cwV 1 hts gX7_replays_X7_winsGame rfl rfl rfl (by decide +kernel) ⟨Nat.le_of_ble_eq_true rfl, Nat.le_of_ble_eq_true rfl⟩) hP hD hS [0, 1, 2, 3, 4, 5, 6] rfl (by decide) rfl rfl rfl rfl hl.1 (Nat.le_of_ble_eq_true rfl) dX7_replays_132) (fun H locs hP hD hS => ?_)
      have hP : va_P (dC, dI) vwCl [(bM, .inr (7, [.int th, .long tc, .ref b0, .int pd, .ref b1, .ref b2, .ref b3, .long be, .ref b4, .ref b5, .int fs11])), (b0, .inl (cI, 7, .inl mr)), (b1, .inl (cI, 400, .inl mp)), (b2, .inl (cJ, 49, .inr (.inl ch))), (b3, .inl (cJ, 49, .inr (.inl la))), (b4, .inl (cJ, 128, .inr (.inl se))), (b5, .inl (cI, 13, .inl ta10))] H := hP
      have hD : va_D A [(bM, .inr (7, [.int th, .long tc, .ref b0, .int pd, .ref b1, .ref b2, .ref b3, .long be, .ref b4, .ref b5, .int fs11])), (b0, .inl (cI, 7, .inl mr)), (b1, .inl (cI, 400, .inl mp)), (b2, .inl (cJ, 49, .inr (.inl ch))), (b3, .inl (cJ, 49, .inr (.inl la))), (b4, .inl (cJ, 128, .inr (.inl se))), (b5, .inl (cI, 13, .inl ta10))] := hD
      exact B_X7_replays_135 C0 hk hq hf H locs ls hP hD hS (lv_sub hl [2, 3] rfl)
set_option maxHeartbeats 4000000 in
set_option maxRecDepth 100000 in
theorem L_X7_replays_41 {p : Program} {l : Launch} {e : Env} {s : State} {m : MethodId} {args : Array Value} {below : List Frame} {meth : Method} {c : Code} {A : Nat → Prop} {dC : Nat → ClassId} {dI : Nat → Nat → Nat} {cI cJ cZ : ClassId} {bM b0 b1 b2 b3 b4 b5 : Nat} (C0 : q_C p s m args meth c (dC, dI) (q_T cI cJ cZ) A RX7 wsX7_replays cX7_replays 4 none) {Q : State → Prop} {th : Int32} {tc : Int64} {mr : (Nat → Int32)} {pd : Int32} {mp : (Nat → Int32)} {ch : (Nat → Int64)} {la : (Nat → Int64)} {be : Int64} {se : (Nat → Int64)} : ∀ (n : Nat) (v0 : Int32) (v1 : (Nat → Int32)) (v2 : Int32) (R : Int32 × (Nat → Int32) × Int32), l_X7_replays_41 th tc mr pd mp ch la be se n (v0, v1, v2) = some R → (∀ (H : Heap) (locs : List Loc) (ls : Array Slot), va_P (dC, dI) vwCl [(bM, .inr (7, [.int th, .long tc, .ref b0, .int pd, .ref b1, .ref b2, .ref b3, .long be, .ref b4, .ref b5, .int R.2.2])), (b0, .inl (cI, 7, .inl mr)), (b1, .inl (cI, 400, .inl mp)), (b2, .inl (cJ, 49, .inr (.inl ch))), (b3, .inl (cJ, 49, .inr (.inl la))), (b4, .inl (cJ, 128, .inr (.inl se))), (b5, .inl (cI, 13, .inl R.2.1))] H → va_D A [(bM, .inr (7, [.int th, .long tc, .ref b0, .int pd, .ref b1, .ref b2, .ref b3, .long be, .ref b4, .ref b5, .int R.2.2])), (b0, .inl (cI, 7, .inl mr)), (b1, .inl (cI, 400, .inl mp)), (b2, .inl (cJ, 49, .inr (.inl ch))), (b3, .inl (cJ, 49, .inr (.inl la))), (b4, .inl (cJ, 128, .inr (.inl se))), (b5, .inl (cI, 13, .inl R.2.1))] → va_S A s.heap H locs → lv_has ls 4 [] → W p l e rmX7_replays s m args below meth c H locs 0 0 Q (F0 m 141 ls [])) → ∀ (H : Heap) (locs : List Loc) (ls : Array Slot), va_P (dC, dI) vwCl [(bM, .inr (7, [.int th, .long tc, .ref b0, .int pd, .ref b1, .ref b2, .ref b3, .long be, .ref b4, .ref b5, .int v2])), (b0, .inl (cI, 7, .inl mr)), (b1, .inl (cI, 400, .inl mp)), (b2, .inl (cJ, 49, .inr (.inl ch))), (b3, .inl (cJ, 49, .inr (.inl la))), (b4, .inl (cJ, 128, .inr (.inl se))), (b5, .inl (cI, 13, .inl v1))] H → va_D A [(bM, .inr (7, [.int th, .long tc, .ref b0, .int pd, .ref b1, .ref b2, .ref b3, .long be, .ref b4, .ref b5, .int v2])), (b0, .inl (cI, 7, .inl mr)), (b1, .inl (cI, 400, .inl mp)), (b2, .inl (cJ, 49, .inr (.inl ch))), (b3, .inl (cJ, 49, .inr (.inl la))), (b4, .inl (cJ, 128, .inr (.inl se))), (b5, .inl (cI, 13, .inl v1))] → va_S A s.heap H locs → lv_has ls 4 [(0, .ref bM), (1, .int v0)] → W p l e rmX7_replays s m args below meth c H locs 0 0 Q (F0 m 41 ls []) := by
  intro n
  induction n with
  | zero =>
    intro v0 v1 v2 R hf
    have hf : (none : Option (Int32 × (Nat → Int32) × Int32)) = some R := hf
    cases hf
  | succ n ih =>
    intro v0 v1 v2 R hf hq
    have hf : b_X7_replays_41 (l_X7_replays_41 th tc mr pd mp ch la be se n) v0 th tc mr pd mp ch la be se v1 v2 = some R := hf
    exact B_X7_replays_41 C0 (fun v0 v1 v2 h => ih v0 v1 v2 R h hq) hq hf
set_option maxHeartbeats 4000000 in
set_option maxRecDepth 100000 in
theorem B_X7_replays_2 {p : Program} {l : Launch} {e : Env} {s : State} {m : MethodId} {args : Array Value} {below : List Frame} {meth : Method} {c : Code} {A : Nat → Prop} {dC : Nat → ClassId} {dI : Nat → Nat → Nat} {cI cJ cZ : ClassId} {bM b0 b1 b2 b3 b4 b5 : Nat} (C0 : q_C p s m args meth c (dC, dI) (q_T cI cJ cZ) A RX7 wsX7_replays cX7_replays 4 none) {Q : State → Prop} {k : (Int32 × (Nat → Int32) × Int32) → Option (Int32 × (Nat → Int32) × Int32)} {x1 : Int32} {th : Int32} {tc : Int64} {mr : (Nat → Int32)} {pd : Int32} {mp : (Nat → Int32)} {ch : (Nat → Int64)} {la : (Nat → Int64)} {be : Int64} {se : (Nat → Int64)} {ta : (Nat → Int32)} {fs : Int32} {R : Int32 × (Nat → Int32) × Int32} (hk : ∀ (v0 : Int32) (v1 : (Nat → Int32)) (v2 : Int32), k (v0, v1, v2) = some R → ∀ (H : Heap) (locs : List Loc) (ls : Array Slot), va_P (dC, dI) vwCl [(bM, .inr (7, [.int th, .long tc, .ref b0, .int pd, .ref b1, .ref b2, .ref b3, .long be, .ref b4, .ref b5, .int v2])), (b0, .inl (cI, 7, .inl mr)), (b1, .inl (cI, 400, .inl mp)), (b2, .inl (cJ, 49, .inr (.inl ch))), (b3, .inl (cJ, 49, .inr (.inl la))), (b4, .inl (cJ, 128, .inr (.inl se))), (b5, .inl (cI, 13, .inl v1))] H → va_D A [(bM, .inr (7, [.int th, .long tc, .ref b0, .int pd, .ref b1, .ref b2, .ref b3, .long be, .ref b4, .ref b5, .int v2])), (b0, .inl (cI, 7, .inl mr)), (b1, .inl (cI, 400, .inl mp)), (b2, .inl (cJ, 49, .inr (.inl ch))), (b3, .inl (cJ, 49, .inr (.inl la))), (b4, .inl (cJ, 128, .inr (.inl se))), (b5, .inl (cI, 13, .inl v1))] → va_S A s.heap H locs → lv_has ls 4 [(0, .ref bM), (1, .int v0)] → W p l e rmX7_replays s m args below meth c H locs 0 0 Q (F0 m 2 ls [])) (hq : ∀ (H : Heap) (locs : List Loc) (ls : Array Slot), va_P (dC, dI) vwCl [(bM, .inr (7, [.int th, .long tc, .ref b0, .int pd, .ref b1, .ref b2, .ref b3, .long be, .ref b4, .ref b5, .int R.2.2])), (b0, .inl (cI, 7, .inl mr)), (b1, .inl (cI, 400, .inl mp)), (b2, .inl (cJ, 49, .inr (.inl ch))), (b3, .inl (cJ, 49, .inr (.inl la))), (b4, .inl (cJ, 128, .inr (.inl se))), (b5, .inl (cI, 13, .inl R.2.1))] H → va_D A [(bM, .inr (7, [.int th, .long tc, .ref b0, .int pd, .ref b1, .ref b2, .ref b3, .long be, .ref b4, .ref b5, .int R.2.2])), (b0, .inl (cI, 7, .inl mr)), (b1, .inl (cI, 400, .inl mp)), (b2, .inl (cJ, 49, .inr (.inl ch))), (b3, .inl (cJ, 49, .inr (.inl la))), (b4, .inl (cJ, 128, .inr (.inl se))), (b5, .inl (cI, 13, .inl R.2.1))] → va_S A s.heap H locs → lv_has ls 4 [(0, .ref bM)] → W p l e rmX7_replays s m args below meth c H locs 0 0 Q (F0 m 21 ls [])) (hf : b_X7_replays_2 k x1 th tc mr pd mp ch la be se ta fs = some R) : ∀ (H : Heap) (locs : List Loc) (ls : Array Slot), va_P (dC, dI) vwCl [(bM, .inr (7, [.int th, .long tc, .ref b0, .int pd, .ref b1, .ref b2, .ref b3, .long be, .ref b4, .ref b5, .int fs])), (b0, .inl (cI, 7, .inl mr)), (b1, .inl (cI, 400, .inl mp)), (b2, .inl (cJ, 49, .inr (.inl ch))), (b3, .inl (cJ, 49, .inr (.inl la))), (b4, .inl (cJ, 128, .inr (.inl se))), (b5, .inl (cI, 13, .inl ta))] H → va_D A [(bM, .inr (7, [.int th, .long tc, .ref b0, .int pd, .ref b1, .ref b2, .ref b3, .long be, .ref b4, .ref b5, .int fs])), (b0, .inl (cI, 7, .inl mr)), (b1, .inl (cI, 400, .inl mp)), (b2, .inl (cJ, 49, .inr (.inl ch))), (b3, .inl (cJ, 49, .inr (.inl la))), (b4, .inl (cJ, 128, .inr (.inl se))), (b5, .inl (cI, 13, .inl ta))] → va_S A s.heap H locs → lv_has ls 4 [(0, .ref bM), (1, .int x1)] → W p l e rmX7_replays s m args below meth c H locs 0 0 Q (F0 m 2 ls []) := by
  obtain ⟨hx, hb, hml, hown, hts, hrt, hlk, hK, hX, hA⟩ := id C0
  intro H locs ls hP hD hS hl
  unfold b_X7_replays_2 at hf
  refine lv_iload_n hx hb dX7_replays_2 rfl (lv_at hl 1 rfl) ?_
  refine lv_bipush (v := 12) hx hb dX7_replays_3 (by decide) ?_
  refine lv_icmp_ge (tgt := 21) hx hb dX7_replays_5 (by decide) (fun hc13 => ?_) (fun hc13 => ?_)
  · have hf := q_if hf hc13
    obtain rfl := Option.some.inj hf
    exact hq H locs ls hP hD hS (lv_sub hl [0] rfl)
  · have hf := q_nif hf hc13
    refine lv_aload_n hx hb dX7_replays_8 rfl (lv_at hl 0 rfl) ?_
    refine q_get (TT := TX7) C0 in_X7_replays_X7 9 m_X7_replays_f26 hP 0 rfl rfl (by decide) rfl rfl dX7_replays_9 ?_
    refine lv_iload_n hx hb dX7_replays_12 rfl (lv_at hl 1 rfl) ?_
    refine lv_iconst (v := 0) hx hb dX7_replays_13 (by decide) ?_
    obtain ⟨hin14, hf⟩ := q_gd hf
    refine q_iast (g := upd ta (Int32.toNatClampNeg x1) 0) C0 hP hD hS 6 0 rfl rfl hin14 rfl dX7_replays_14 (fun H locs hP hD hS => ?_)
    have hP : va_P (dC, dI) vwCl [(bM, .inr (7, [.int th, .long tc, .ref b0, .int pd, .ref b1, .ref b2, .ref b3, .long be, .ref b4, .ref b5, .int fs])), (b0, .inl (cI, 7, .inl mr)), (b1, .inl (cI, 400, .inl mp)), (b2, .inl (cJ, 49, .inr (.inl ch))), (b3, .inl (cJ, 49, .inr (.inl la))), (b4, .inl (cJ, 128, .inr (.inl se))), (b5, .inl (cI, 13, .inl (upd ta (Int32.toNatClampNeg x1) 0)))] H := hP
    have hD : va_D A [(bM, .inr (7, [.int th, .long tc, .ref b0, .int pd, .ref b1, .ref b2, .ref b3, .long be, .ref b4, .ref b5, .int fs])), (b0, .inl (cI, 7, .inl mr)), (b1, .inl (cI, 400, .inl mp)), (b2, .inl (cJ, 49, .inr (.inl ch))), (b3, .inl (cJ, 49, .inr (.inl la))), (b4, .inl (cJ, 128, .inr (.inl se))), (b5, .inl (cI, 13, .inl (upd ta (Int32.toNatClampNeg x1) 0)))] := hD
    refine lv_iinc (v := x1 + 1) (lv' := [(1, .int (x1 + 1)), (0, .ref bM)]) hx hb dX7_replays_15 hl (k := 1) rfl rfl (by decide) rfl (fun ls hl => ?_)
    refine lv_goto (tgt := 2) hx hb dX7_replays_18 (by decide) ?_
    exact hk _ _ _ hf H locs ls hP hD hS (lv_sub hl [1, 0] rfl)
set_option maxHeartbeats 4000000 in
set_option maxRecDepth 100000 in
theorem L_X7_replays_2 {p : Program} {l : Launch} {e : Env} {s : State} {m : MethodId} {args : Array Value} {below : List Frame} {meth : Method} {c : Code} {A : Nat → Prop} {dC : Nat → ClassId} {dI : Nat → Nat → Nat} {cI cJ cZ : ClassId} {bM b0 b1 b2 b3 b4 b5 : Nat} (C0 : q_C p s m args meth c (dC, dI) (q_T cI cJ cZ) A RX7 wsX7_replays cX7_replays 4 none) {Q : State → Prop} {th : Int32} {tc : Int64} {mr : (Nat → Int32)} {pd : Int32} {mp : (Nat → Int32)} {ch : (Nat → Int64)} {la : (Nat → Int64)} {be : Int64} {se : (Nat → Int64)} : ∀ (n : Nat) (v0 : Int32) (v1 : (Nat → Int32)) (v2 : Int32) (R : Int32 × (Nat → Int32) × Int32), l_X7_replays_2 th tc mr pd mp ch la be se n (v0, v1, v2) = some R → (∀ (H : Heap) (locs : List Loc) (ls : Array Slot), va_P (dC, dI) vwCl [(bM, .inr (7, [.int th, .long tc, .ref b0, .int pd, .ref b1, .ref b2, .ref b3, .long be, .ref b4, .ref b5, .int R.2.2])), (b0, .inl (cI, 7, .inl mr)), (b1, .inl (cI, 400, .inl mp)), (b2, .inl (cJ, 49, .inr (.inl ch))), (b3, .inl (cJ, 49, .inr (.inl la))), (b4, .inl (cJ, 128, .inr (.inl se))), (b5, .inl (cI, 13, .inl R.2.1))] H → va_D A [(bM, .inr (7, [.int th, .long tc, .ref b0, .int pd, .ref b1, .ref b2, .ref b3, .long be, .ref b4, .ref b5, .int R.2.2])), (b0, .inl (cI, 7, .inl mr)), (b1, .inl (cI, 400, .inl mp)), (b2, .inl (cJ, 49, .inr (.inl ch))), (b3, .inl (cJ, 49, .inr (.inl la))), (b4, .inl (cJ, 128, .inr (.inl se))), (b5, .inl (cI, 13, .inl R.2.1))] → va_S A s.heap H locs → lv_has ls 4 [(0, .ref bM)] → W p l e rmX7_replays s m args below meth c H locs 0 0 Q (F0 m 21 ls [])) → ∀ (H : Heap) (locs : List Loc) (ls : Array Slot), va_P (dC, dI) vwCl [(bM, .inr (7, [.int th, .long tc, .ref b0, .int pd, .ref b1, .ref b2, .ref b3, .long be, .ref b4, .ref b5, .int v2])), (b0, .inl (cI, 7, .inl mr)), (b1, .inl (cI, 400, .inl mp)), (b2, .inl (cJ, 49, .inr (.inl ch))), (b3, .inl (cJ, 49, .inr (.inl la))), (b4, .inl (cJ, 128, .inr (.inl se))), (b5, .inl (cI, 13, .inl v1))] H → va_D A [(bM, .inr (7, [.int th, .long tc, .ref b0, .int pd, .ref b1, .ref b2, .ref b3, .long be, .ref b4, .ref b5, .int v2])), (b0, .inl (cI, 7, .inl mr)), (b1, .inl (cI, 400, .inl mp)), (b2, .inl (cJ, 49, .inr (.inl ch))), (b3, .inl (cJ, 49, .inr (.inl la))), (b4, .inl (cJ, 128, .inr (.inl se))), (b5, .inl (cI, 13, .inl v1))] → va_S A s.heap H locs → lv_has ls 4 [(0, .ref bM), (1, .int v0)] → W p l e rmX7_replays s m args below meth c H locs 0 0 Q (F0 m 2 ls []) := by
  intro n
  induction n with
  | zero =>
    intro v0 v1 v2 R hf
    have hf : (none : Option (Int32 × (Nat → Int32) × Int32)) = some R := hf
    cases hf
  | succ n ih =>
    intro v0 v1 v2 R hf hq
    have hf : b_X7_replays_2 (l_X7_replays_2 th tc mr pd mp ch la be se n) v0 th tc mr pd mp ch la be se v1 v2 = some R := hf
    exact B_X7_replays_2 C0 (fun v0 v1 v2 h => ih v0 v1 v2 R h hq) hq hf
set_option maxHeartbeats 4000000 in
set_option maxRecDepth 100000 in
theorem B_X7_replays_0 {p : Program} {l : Launch} {e : Env} {s : State} {m : MethodId} {args : Array Value} {below : List Frame} {meth : Method} {c : Code} {A : Nat → Prop} {dC : Nat → ClassId} {dI : Nat → Nat → Nat} {cI cJ cZ : ClassId} {bM b0 b1 b2 b3 b4 b5 : Nat} (C0 : q_C p s m args meth c (dC, dI) (q_T cI cJ cZ) A RX7 wsX7_replays cX7_replays 4 none) {th : Int32} {tc : Int64} {mr : (Nat → Int32)} {pd : Int32} {mp : (Nat → Int32)} {ch : (Nat → Int64)} {la : (Nat → Int64)} {be : Int64} {se : (Nat → Int64)} {ta : (Nat → Int32)} {fs : Int32} {R : (Nat → Int32) × Int32} (hf : f_X7_replays th tc mr pd mp ch la be se ta fs = some R) : ∀ (H : Heap) (locs : List Loc) (ls : Array Slot), va_P (dC, dI) vwCl [(bM, .inr (7, [.int th, .long tc, .ref b0, .int pd, .ref b1, .ref b2, .ref b3, .long be, .ref b4, .ref b5, .int fs])), (b0, .inl (cI, 7, .inl mr)), (b1, .inl (cI, 400, .inl mp)), (b2, .inl (cJ, 49, .inr (.inl ch))), (b3, .inl (cJ, 49, .inr (.inl la))), (b4, .inl (cJ, 128, .inr (.inl se))), (b5, .inl (cI, 13, .inl ta))] H → va_D A [(bM, .inr (7, [.int th, .long tc, .ref b0, .int pd, .ref b1, .ref b2, .ref b3, .long be, .ref b4, .ref b5, .int fs])), (b0, .inl (cI, 7, .inl mr)), (b1, .inl (cI, 400, .inl mp)), (b2, .inl (cJ, 49, .inr (.inl ch))), (b3, .inl (cJ, 49, .inr (.inl la))), (b4, .inl (cJ, 128, .inr (.inl se))), (b5, .inl (cI, 13, .inl ta))] → va_S A s.heap H locs → lv_has ls 4 [(0, .ref bM)] → W p l e rmX7_replays s m args below meth c H locs 0 0 (MQ below (qV (dC, dI) (q_T cI cJ cZ) [(bM, .inr (7, [.int th, .long tc, .ref b0, .int pd, .ref b1, .ref b2, .ref b3, .long be, .ref b4, .ref b5, .int R.2])), (b0, .inl (cI, 7, .inl mr)), (b1, .inl (cI, 400, .inl mp)), (b2, .inl (cJ, 49, .inr (.inl ch))), (b3, .inl (cJ, 49, .inr (.inl la))), (b4, .inl (cJ, 128, .inr (.inl se))), (b5, .inl (cI, 13, .inl R.1))] A) args s 0 0 A) (F0 m 0 ls []) := by
  obtain ⟨hx, hb, hml, hown, hts, hrt, hlk, hK, hX, hA⟩ := id C0
  intro H locs ls hP hD hS hl
  unfold f_X7_replays at hf
  refine lv_iconst (v := 0) hx hb dX7_replays_0 (by decide) ?_
  refine lv_istore_n (lv' := [(1, .int 0), (0, .ref bM)]) hx hb dX7_replays_1 rfl hl (by decide) rfl (fun ls hl => ?_)
  obtain ⟨y15, y16, y17, hg18, hf⟩ := q_e3 hf
  refine L_X7_replays_2 C0 1000 _ _ _ _ hg18 ?_ H locs ls hP hD hS (lv_sub hl [1, 0] rfl)
  intro H locs ls hP hD hS hl
  have hP : va_P (dC, dI) vwCl [(bM, .inr (7, [.int th, .long tc, .ref b0, .int pd, .ref b1, .ref b2, .ref b3, .long be, .ref b4, .ref b5, .int y17])), (b0, .inl (cI, 7, .inl mr)), (b1, .inl (cI, 400, .inl mp)), (b2, .inl (cJ, 49, .inr (.inl ch))), (b3, .inl (cJ, 49, .inr (.inl la))), (b4, .inl (cJ, 128, .inr (.inl se))), (b5, .inl (cI, 13, .inl y16))] H := hP
  have hD : va_D A [(bM, .inr (7, [.int th, .long tc, .ref b0, .int pd, .ref b1, .ref b2, .ref b3, .long be, .ref b4, .ref b5, .int y17])), (b0, .inl (cI, 7, .inl mr)), (b1, .inl (cI, 400, .inl mp)), (b2, .inl (cJ, 49, .inr (.inl ch))), (b3, .inl (cJ, 49, .inr (.inl la))), (b4, .inl (cJ, 128, .inr (.inl se))), (b5, .inl (cI, 13, .inl y16))] := hD
  have hl : lv_has ls 4 [(0, .ref bM)] := hl
  refine lv_aload_n hx hb dX7_replays_21 rfl (lv_at hl 0 rfl) ?_
  refine q_get (TT := TX7) C0 in_X7_replays_X7 9 m_X7_replays_f26 hP 0 rfl rfl (by decide) rfl rfl dX7_replays_22 ?_
  refine lv_bipush (v := 12) hx hb dX7_replays_25 (by decide) ?_
  refine lv_bipush (v := (-9)) hx hb dX7_replays_27 (by decide) ?_
  refine q_iast (g := upd y16 12 (-9)) C0 hP hD hS 6 0 rfl rfl (by unfold vp_in; decide) rfl dX7_replays_29 (fun H locs hP hD hS => ?_)
  have hP : va_P (dC, dI) vwCl [(bM, .inr (7, [.int th, .long tc, .ref b0, .int pd, .ref b1, .ref b2, .ref b3, .long be, .ref b4, .ref b5, .int y17])), (b0, .inl (cI, 7, .inl mr)), (b1, .inl (cI, 400, .inl mp)), (b2, .inl (cJ, 49, .inr (.inl ch))), (b3, .inl (cJ, 49, .inr (.inl la))), (b4, .inl (cJ, 128, .inr (.inl se))), (b5, .inl (cI, 13, .inl (upd y16 12 (-9))))] H := hP
  have hD : va_D A [(bM, .inr (7, [.int th, .long tc, .ref b0, .int pd, .ref b1, .ref b2, .ref b3, .long be, .ref b4, .ref b5, .int y17])), (b0, .inl (cI, 7, .inl mr)), (b1, .inl (cI, 400, .inl mp)), (b2, .inl (cJ, 49, .inr (.inl ch))), (b3, .inl (cJ, 49, .inr (.inl la))), (b4, .inl (cJ, 128, .inr (.inl se))), (b5, .inl (cI, 13, .inl (upd y16 12 (-9))))] := hD
  refine lv_aload_n hx hb dX7_replays_30 rfl (lv_at hl 0 rfl) ?_
  refine lv_iconst (v := 0) hx hb dX7_replays_31 (by decide) ?_
  refine q_put (ty := .int) (TT := TX7) C0 in_X7_replays_X7 tyX7 tyX7_ok nmX7 10 m_X7_replays_f103 hP hD hS 0 rfl rfl (by decide) rfl rfl (by decide +kernel) rfl rfl (Nat.le_of_ble_eq_true rfl) dX7_replays_32 (fun H locs hP hD hS => ?_)
  have hP : va_P (dC, dI) vwCl [(bM, .inr (7, [.int th, .long tc, .ref b0, .int pd, .ref b1, .ref b2, .ref b3, .long be, .ref b4, .ref b5, .int 0])), (b0, .inl (cI, 7, .inl mr)), (b1, .inl (cI, 400, .inl mp)), (b2, .inl (cJ, 49, .inr (.inl ch))), (b3, .inl (cJ, 49, .inr (.inl la))), (b4, .inl (cJ, 128, .inr (.inl se))), (b5, .inl (cI, 13, .inl (upd y16 12 (-9))))] H := hP
  have hD : va_D A [(bM, .inr (7, [.int th, .long tc, .ref b0, .int pd, .ref b1, .ref b2, .ref b3, .long be, .ref b4, .ref b5, .int 0])), (b0, .inl (cI, 7, .inl mr)), (b1, .inl (cI, 400, .inl mp)), (b2, .inl (cJ, 49, .inr (.inl ch))), (b3, .inl (cJ, 49, .inr (.inl la))), (b4, .inl (cJ, 128, .inr (.inl se))), (b5, .inl (cI, 13, .inl (upd y16 12 (-9))))] := hD
  refine lv_aload_n hx hb dX7_replays_35 rfl (lv_at hl 0 rfl) ?_
  obtain ⟨ta19, hg20, hf⟩ := q_e1 hf
  refine q_endV (wc := [(bM, .inr (7, [.int th, .long tc, .ref b0, .int pd, .ref b1, .ref b2, .ref b3, .long be, .ref b4, .ref b5, .int 0])), (b0, .inl (cI, 7, .inl mr)), (b1, .inl (cI, 400, .inl mp)), (b2, .inl (cJ, 49, .inr (.inl ch))), (b3, .inl (cJ, 49, .inr (.inl la))), (b4, .inl (cJ, 128, .inr (.inl se))), (b5, .inl (cI, 13, .inl (upd y16 12 (-9))))]) (wr := []) (w1 := [(bM, .inr (7, [.int th, .long tc, .ref b0, .int pd, .ref b1, .ref b2, .ref b3, .long be, .ref b4, .ref b5, .int 0])), (b0, .inl (cI, 7, .inl mr)), (b1, .inl (cI, 400, .inl mp)), (b2, .inl (cJ, 49, .inr (.inl ch))), (b3, .inl (cJ, 49, .inr (.inl la))), (b4, .inl (cJ, 128, .inr (.inl se))), (b5, .inl (cI, 13, .inl ta19))]) C0 hP hD hS [0, 1, 2, 3, 4, 5, 6] [] rfl rfl (by decide) (by decide) (q_runV (TT := TX7) (N := 11) (ci := 7) (q0 := 0) C0 (c_X7_beginsGame (l := l) hg20) (cwV 0 hts gX7_replays_X7_beginsGame rfl rfl rfl (by decide +kernel) ⟨Nat.le_of_ble_eq_true rfl, Nat.le_of_ble_eq_true rfl⟩) hP hD hS [0, 1, 2, 3, 4, 5, 6] rfl (by decide) rfl rfl rfl rfl hl.1 (Nat.le_of_ble_eq_true rfl) dX7_replays_36) (fun H locs hP hD hS => ?_)
  have hP : va_P (dC, dI) vwCl [(bM, .inr (7, [.int th, .long tc, .ref b0, .int pd, .ref b1, .ref b2, .ref b3, .long be, .ref b4, .ref b5, .int 0])), (b0, .inl (cI, 7, .inl mr)), (b1, .inl (cI, 400, .inl mp)), (b2, .inl (cJ, 49, .inr (.inl ch))), (b3, .inl (cJ, 49, .inr (.inl la))), (b4, .inl (cJ, 128, .inr (.inl se))), (b5, .inl (cI, 13, .inl ta19))] H := hP
  have hD : va_D A [(bM, .inr (7, [.int th, .long tc, .ref b0, .int pd, .ref b1, .ref b2, .ref b3, .long be, .ref b4, .ref b5, .int 0])), (b0, .inl (cI, 7, .inl mr)), (b1, .inl (cI, 400, .inl mp)), (b2, .inl (cJ, 49, .inr (.inl ch))), (b3, .inl (cJ, 49, .inr (.inl la))), (b4, .inl (cJ, 128, .inr (.inl se))), (b5, .inl (cI, 13, .inl ta19))] := hD
  refine lv_iconst (v := 0) hx hb dX7_replays_39 (by decide) ?_
  refine lv_istore_n (lv' := [(1, .int 0), (0, .ref bM)]) hx hb dX7_replays_40 rfl hl (by decide) rfl (fun ls hl => ?_)
  obtain ⟨y21, y22, y23, hg24, hf⟩ := q_e3 hf
  refine L_X7_replays_41 C0 1000 _ _ _ _ hg24 ?_ H locs ls hP hD hS (lv_sub hl [1, 0] rfl)
  intro H locs ls hP hD hS hl
  have hP : va_P (dC, dI) vwCl [(bM, .inr (7, [.int th, .long tc, .ref b0, .int pd, .ref b1, .ref b2, .ref b3, .long be, .ref b4, .ref b5, .int y23])), (b0, .inl (cI, 7, .inl mr)), (b1, .inl (cI, 400, .inl mp)), (b2, .inl (cJ, 49, .inr (.inl ch))), (b3, .inl (cJ, 49, .inr (.inl la))), (b4, .inl (cJ, 128, .inr (.inl se))), (b5, .inl (cI, 13, .inl y22))] H := hP
  have hD : va_D A [(bM, .inr (7, [.int th, .long tc, .ref b0, .int pd, .ref b1, .ref b2, .ref b3, .long be, .ref b4, .ref b5, .int y23])), (b0, .inl (cI, 7, .inl mr)), (b1, .inl (cI, 400, .inl mp)), (b2, .inl (cJ, 49, .inr (.inl ch))), (b3, .inl (cJ, 49, .inr (.inl la))), (b4, .inl (cJ, 128, .inr (.inl se))), (b5, .inl (cI, 13, .inl y22))] := hD
  have hl : lv_has ls 4 [] := hl
  obtain rfl := Option.some.inj hf
  exact q_retV C0 hP hD hS dX7_replays_141
set_option maxHeartbeats 4000000 in
set_option maxRecDepth 100000 in
theorem c_X7_replays {l : Launch} {dC : Nat → ClassId} {dI : Nat → Nat → Nat} {cI cJ cZ : ClassId} {bM b0 b1 b2 b3 b4 b5 : Nat} {th : Int32} {tc : Int64} {mr : (Nat → Int32)} {pd : Int32} {mp : (Nat → Int32)} {ch : (Nat → Int64)} {la : (Nat → Int64)} {be : Int64} {se : (Nat → Int64)} {ta : (Nat → Int32)} {fs : Int32} {R : (Nat → Int32) × Int32} (hf : f_X7_replays th tc mr pd mp ch la be se ta fs = some R) : q_M l yX7_replays wsX7_replays rmX7_replays (dC, dI) (q_T cI cJ cZ) [.ref bM] [(bM, .inr (7, [.int th, .long tc, .ref b0, .int pd, .ref b1, .ref b2, .ref b3, .long be, .ref b4, .ref b5, .int fs])), (b0, .inl (cI, 7, .inl mr)), (b1, .inl (cI, 400, .inl mp)), (b2, .inl (cJ, 49, .inr (.inl ch))), (b3, .inl (cJ, 49, .inr (.inl la))), (b4, .inl (cJ, 128, .inr (.inl se))), (b5, .inl (cI, 13, .inl ta))] (qV (dC, dI) (q_T cI cJ cZ) [(bM, .inr (7, [.int th, .long tc, .ref b0, .int pd, .ref b1, .ref b2, .ref b3, .long be, .ref b4, .ref b5, .int R.2])), (b0, .inl (cI, 7, .inl mr)), (b1, .inl (cI, 400, .inl mp)), (b2, .inl (cJ, 49, .inr (.inl ch))), (b3, .inl (cJ, 49, .inr (.inl la))), (b4, .inl (cJ, 128, .inr (.inl se))), (b5, .inl (cI, 13, .inl R.1))]) := by
  refine q_body (cc := cX7_replays) (maxL := 4) (ret := none) (by decide) rfl (Nat.le_of_ble_eq_true rfl) ?_
  intro p e s m args below meth c A C0 ls hP hD hS hl
  have hl : lv_has ls 4 [(0, .ref bM)] := hl
  exact B_X7_replays_0 C0 hf s.heap [] ls hP hD hS hl
/-! ## RungPlayModel.set -/
abbrev rmX7_set : Room := { frames := 3, cells := 0, slots := 0, locals := 67 }
theorem m_X7_set_f7 : Cond.fieldLink RX7 7 RX7 "rules" "[I" ∈ wsX7_set := by decide +kernel
theorem in_X7_set_X7 : ∀ w ∈ wsX70, w ∈ wsX7_set := by decide +kernel
theorem m_X7_set_f44 : Cond.fieldLink RX7 44 RX7 "played" "I" ∈ wsX7_set := by decide +kernel
theorem m_X7_set_f32 : Cond.fieldLink RX7 32 RX7 "thrown" "I" ∈ wsX7_set := by decide +kernel
noncomputable def b_X7_set_88 (x3 : Int32) (s0 : Int32) (s1 : Int32) (th : Int32) (tc : Int64) (mr : (Nat → Int32)) (pd : Int32) (mp : (Nat → Int32)) (ch : (Nat → Int64)) (la : (Nat → Int64)) (be : Int64) (se : (Nat → Int64)) (ta : (Nat → Int32)) (fs : Int32) : Option (Int32 × Int32 × (Nat → Int32) × (Nat → Int32) × Int32) :=
  (if s1 < 0 ∨ 7 ≤ Int32.toNatClampNeg s1 then none else (q_b2 (f_X7_replays th tc (upd mr (Int32.toNatClampNeg s1) s0) pd mp ch la be se ta fs) (fun ta2 fs3 => (some (x3, th, upd mr (Int32.toNatClampNeg s1) s0, ta2, fs3)))))
noncomputable def b_X7_set_54 (x1 : Int32) (x2 : Int32) (th : Int32) (tc : Int64) (mr : (Nat → Int32)) (pd : Int32) (mp : (Nat → Int32)) (ch : (Nat → Int64)) (la : (Nat → Int64)) (be : Int64) (se : (Nat → Int64)) (ta : (Nat → Int32)) (fs : Int32) : Option (Int32 × Int32 × (Nat → Int32) × (Nat → Int32) × Int32) :=
  (if x1 < 0 ∨ 7 ≤ Int32.toNatClampNeg x1 then none else (if x1 < 0 ∨ 7 ≤ Int32.toNatClampNeg x1 then none else (if x1 = 2 then (b_X7_set_88 (mr (Int32.toNatClampNeg x1)) 0 5 th tc (upd mr (Int32.toNatClampNeg x1) x2) pd mp ch la be se ta fs) else (b_X7_set_88 (mr (Int32.toNatClampNeg x1)) ((upd mr (Int32.toNatClampNeg x1) x2) 5) 5 th tc (upd mr (Int32.toNatClampNeg x1) x2) pd mp ch la be se ta fs))))
noncomputable def b_X7_set_26 (x1 : Int32) (x2 : Int32) (s0 : Int32) (s1 : Int32) (th : Int32) (tc : Int64) (mr : (Nat → Int32)) (pd : Int32) (mp : (Nat → Int32)) (ch : (Nat → Int64)) (la : (Nat → Int64)) (be : Int64) (se : (Nat → Int64)) (ta : (Nat → Int32)) (fs : Int32) : Option (Int32 × Int32 × (Nat → Int32) × (Nat → Int32) × Int32) :=
  (q_b1 (f_X7_most x1 th tc mr pd mp ch la be se ta fs) (fun r8 => (q_b1 (f_X7_in s1 s0 r8) (fun r10 => (if r10 = 0 then (some ((-1), th, mr, ta, fs)) else (if x1 ≤ 1 then (b_X7_set_54 x1 x2 th tc mr pd mp ch la be se ta fs) else (if pd ≤ 0 then (b_X7_set_54 x1 x2 th tc mr pd mp ch la be se ta fs) else (some ((-2), th, mr, ta, fs)))))))))
noncomputable def f_X7_set (x1 : Int32) (x2 : Int32) (th : Int32) (tc : Int64) (mr : (Nat → Int32)) (pd : Int32) (mp : (Nat → Int32)) (ch : (Nat → Int64)) (la : (Nat → Int64)) (be : Int64) (se : (Nat → Int64)) (ta : (Nat → Int32)) (fs : Int32) : Option (Int32 × Int32 × (Nat → Int32) × (Nat → Int32) × Int32) :=
  (q_b1 (f_X7_in x1 0 6) (fun r15 => (if r15 = 0 then (some ((-1), 0, mr, ta, fs)) else (if 5 ≤ x1 then (b_X7_set_26 x1 x2 0 x2 0 tc mr pd mp ch la be se ta fs) else (b_X7_set_26 x1 x2 1 x2 0 tc mr pd mp ch la be se ta fs)))))
set_option maxHeartbeats 4000000 in
set_option maxRecDepth 100000 in
theorem B_X7_set_88 {p : Program} {l : Launch} {e : Env} {s : State} {m : MethodId} {args : Array Value} {below : List Frame} {meth : Method} {c : Code} {A : Nat → Prop} {dC : Nat → ClassId} {dI : Nat → Nat → Nat} {cI cJ cZ : ClassId} {bM b0 b1 b2 b3 b4 b5 : Nat} (C0 : q_C p s m args meth c (dC, dI) (q_T cI cJ cZ) A RX7 wsX7_set cX7_set 4 (some .int)) {x3 : Int32} {s0 : Int32} {s1 : Int32} {th : Int32} {tc : Int64} {mr : (Nat → Int32)} {pd : Int32} {mp : (Nat → Int32)} {ch : (Nat → Int64)} {la : (Nat → Int64)} {be : Int64} {se : (Nat → Int64)} {ta : (Nat → Int32)} {fs : Int32} {R : Int32 × Int32 × (Nat → Int32) × (Nat → Int32) × Int32} (hf : b_X7_set_88 x3 s0 s1 th tc mr pd mp ch la be se ta fs = some R) : ∀ (H : Heap) (locs : List Loc) (ls : Array Slot), va_P (dC, dI) vwCl [(bM, .inr (7, [.int th, .long tc, .ref b0, .int pd, .ref b1, .ref b2, .ref b3, .long be, .ref b4, .ref b5, .int fs])), (b0, .inl (cI, 7, .inl mr)), (b1, .inl (cI, 400, .inl mp)), (b2, .inl (cJ, 49, .inr (.inl ch))), (b3, .inl (cJ, 49, .inr (.inl la))), (b4, .inl (cJ, 128, .inr (.inl se))), (b5, .inl (cI, 13, .inl ta))] H → va_D A [(bM, .inr (7, [.int th, .long tc, .ref b0, .int pd, .ref b1, .ref b2, .ref b3, .long be, .ref b4, .ref b5, .int fs])), (b0, .inl (cI, 7, .inl mr)), (b1, .inl (cI, 400, .inl mp)), (b2, .inl (cJ, 49, .inr (.inl ch))), (b3, .inl (cJ, 49, .inr (.inl la))), (b4, .inl (cJ, 128, .inr (.inl se))), (b5, .inl (cI, 13, .inl ta))] → va_S A s.heap H locs → lv_has ls 4 [(0, .ref bM), (3, .int x3)] → W p l e rmX7_set s m args below meth c H locs 0 0 (MQ below (qI (dC, dI) (q_T cI cJ cZ) [(bM, .inr (7, [.int R.2.1, .long tc, .ref b0, .int pd, .ref b1, .ref b2, .ref b3, .long be, .ref b4, .ref b5, .int R.2.2.2.2])), (b0, .inl (cI, 7, .inl R.2.2.1)), (b1, .inl (cI, 400, .inl mp)), (b2, .inl (cJ, 49, .inr (.inl ch))), (b3, .inl (cJ, 49, .inr (.inl la))), (b4, .inl (cJ, 128, .inr (.inl se))), (b5, .inl (cI, 13, .inl R.2.2.2.1))] R.1 A) args s 0 0 A) (F0 m 88 ls [.int s0, .int s1, .ref b0]) := by
  obtain ⟨hx, hb, hml, hown, hts, hrt, hlk, hK, hX, hA⟩ := id C0
  intro H locs ls hP hD hS hl
  unfold b_X7_set_88 at hf
  obtain ⟨hin1, hf⟩ := q_gd hf
  refine q_iast (g := upd mr (Int32.toNatClampNeg s1) s0) C0 hP hD hS 1 0 rfl rfl hin1 rfl dX7_set_88 (fun H locs hP hD hS => ?_)
  have hP : va_P (dC, dI) vwCl [(bM, .inr (7, [.int th, .long tc, .ref b0, .int pd, .ref b1, .ref b2, .ref b3, .long be, .ref b4, .ref b5, .int fs])), (b0, .inl (cI, 7, .inl (upd mr (Int32.toNatClampNeg s1) s0))), (b1, .inl (cI, 400, .inl mp)), (b2, .inl (cJ, 49, .inr (.inl ch))), (b3, .inl (cJ, 49, .inr (.inl la))), (b4, .inl (cJ, 128, .inr (.inl se))), (b5, .inl (cI, 13, .inl ta))] H := hP
  have hD : va_D A [(bM, .inr (7, [.int th, .long tc, .ref b0, .int pd, .ref b1, .ref b2, .ref b3, .long be, .ref b4, .ref b5, .int fs])), (b0, .inl (cI, 7, .inl (upd mr (Int32.toNatClampNeg s1) s0))), (b1, .inl (cI, 400, .inl mp)), (b2, .inl (cJ, 49, .inr (.inl ch))), (b3, .inl (cJ, 49, .inr (.inl la))), (b4, .inl (cJ, 128, .inr (.inl se))), (b5, .inl (cI, 13, .inl ta))] := hD
  refine lv_aload_n hx hb dX7_set_89 rfl (lv_at hl 0 rfl) ?_
  obtain ⟨ta2, fs3, hg4, hf⟩ := q_e2 hf
  refine q_endV (wc := [(bM, .inr (7, [.int th, .long tc, .ref b0, .int pd, .ref b1, .ref b2, .ref b3, .long be, .ref b4, .ref b5, .int fs])), (b0, .inl (cI, 7, .inl (upd mr (Int32.toNatClampNeg s1) s0))), (b1, .inl (cI, 400, .inl mp)), (b2, .inl (cJ, 49, .inr (.inl ch))), (b3, .inl (cJ, 49, .inr (.inl la))), (b4, .inl (cJ, 128, .inr (.inl se))), (b5, .inl (cI, 13, .inl ta))]) (wr := []) (w1 := [(bM, .inr (7, [.int th, .long tc, .ref b0, .int pd, .ref b1, .ref b2, .ref b3, .long be, .ref b4, .ref b5, .int fs3])), (b0, .inl (cI, 7, .inl (upd mr (Int32.toNatClampNeg s1) s0))), (b1, .inl (cI, 400, .inl mp)), (b2, .inl (cJ, 49, .inr (.inl ch))), (b3, .inl (cJ, 49, .inr (.inl la))), (b4, .inl (cJ, 128, .inr (.inl se))), (b5, .inl (cI, 13, .inl ta2))]) C0 hP hD hS [0, 1, 2, 3, 4, 5, 6] [] rfl rfl (by decide) (by decide) (q_runV (TT := TX7) (N := 11) (ci := 7) (q0 := 0) C0 (c_X7_replays (l := l) hg4) (cwV 0 hts gX7_set_X7_replays rfl rfl rfl (by decide +kernel) ⟨Nat.le_of_ble_eq_true rfl, Nat.le_of_ble_eq_true rfl⟩) hP hD hS [0, 1, 2, 3, 4, 5, 6] rfl (by decide) rfl rfl rfl rfl hl.1 (Nat.le_of_ble_eq_true rfl) dX7_set_90) (fun H locs hP hD hS => ?_)
  have hP : va_P (dC, dI) vwCl [(bM, .inr (7, [.int th, .long tc, .ref b0, .int pd, .ref b1, .ref b2, .ref b3, .long be, .ref b4, .ref b5, .int fs3])), (b0, .inl (cI, 7, .inl (upd mr (Int32.toNatClampNeg s1) s0))), (b1, .inl (cI, 400, .inl mp)), (b2, .inl (cJ, 49, .inr (.inl ch))), (b3, .inl (cJ, 49, .inr (.inl la))), (b4, .inl (cJ, 128, .inr (.inl se))), (b5, .inl (cI, 13, .inl ta2))] H := hP
  have hD : va_D A [(bM, .inr (7, [.int th, .long tc, .ref b0, .int pd, .ref b1, .ref b2, .ref b3, .long be, .ref b4, .ref b5, .int fs3])), (b0, .inl (cI, 7, .inl (upd mr (Int32.toNatClampNeg s1) s0))), (b1, .inl (cI, 400, .inl mp)), (b2, .inl (cJ, 49, .inr (.inl ch))), (b3, .inl (cJ, 49, .inr (.inl la))), (b4, .inl (cJ, 128, .inr (.inl se))), (b5, .inl (cI, 13, .inl ta2))] := hD
  refine lv_iload_n hx hb dX7_set_93 rfl (lv_at hl 1 rfl) ?_
  obtain rfl := Option.some.inj hf
  exact q_retI C0 hP hD hS dX7_set_94
set_option maxHeartbeats 4000000 in
set_option maxRecDepth 100000 in
theorem B_X7_set_54 {p : Program} {l : Launch} {e : Env} {s : State} {m : MethodId} {args : Array Value} {below : List Frame} {meth : Method} {c : Code} {A : Nat → Prop} {dC : Nat → ClassId} {dI : Nat → Nat → Nat} {cI cJ cZ : ClassId} {bM b0 b1 b2 b3 b4 b5 : Nat} (C0 : q_C p s m args meth c (dC, dI) (q_T cI cJ cZ) A RX7 wsX7_set cX7_set 4 (some .int)) {x1 : Int32} {x2 : Int32} {th : Int32} {tc : Int64} {mr : (Nat → Int32)} {pd : Int32} {mp : (Nat → Int32)} {ch : (Nat → Int64)} {la : (Nat → Int64)} {be : Int64} {se : (Nat → Int64)} {ta : (Nat → Int32)} {fs : Int32} {R : Int32 × Int32 × (Nat → Int32) × (Nat → Int32) × Int32} (hf : b_X7_set_54 x1 x2 th tc mr pd mp ch la be se ta fs = some R) : ∀ (H : Heap) (locs : List Loc) (ls : Array Slot), va_P (dC, dI) vwCl [(bM, .inr (7, [.int th, .long tc, .ref b0, .int pd, .ref b1, .ref b2, .ref b3, .long be, .ref b4, .ref b5, .int fs])), (b0, .inl (cI, 7, .inl mr)), (b1, .inl (cI, 400, .inl mp)), (b2, .inl (cJ, 49, .inr (.inl ch))), (b3, .inl (cJ, 49, .inr (.inl la))), (b4, .inl (cJ, 128, .inr (.inl se))), (b5, .inl (cI, 13, .inl ta))] H → va_D A [(bM, .inr (7, [.int th, .long tc, .ref b0, .int pd, .ref b1, .ref b2, .ref b3, .long be, .ref b4, .ref b5, .int fs])), (b0, .inl (cI, 7, .inl mr)), (b1, .inl (cI, 400, .inl mp)), (b2, .inl (cJ, 49, .inr (.inl ch))), (b3, .inl (cJ, 49, .inr (.inl la))), (b4, .inl (cJ, 128, .inr (.inl se))), (b5, .inl (cI, 13, .inl ta))] → va_S A s.heap H locs → lv_has ls 4 [(0, .ref bM), (1, .int x1), (2, .int x2)] → W p l e rmX7_set s m args below meth c H locs 0 0 (MQ below (qI (dC, dI) (q_T cI cJ cZ) [(bM, .inr (7, [.int R.2.1, .long tc, .ref b0, .int pd, .ref b1, .ref b2, .ref b3, .long be, .ref b4, .ref b5, .int R.2.2.2.2])), (b0, .inl (cI, 7, .inl R.2.2.1)), (b1, .inl (cI, 400, .inl mp)), (b2, .inl (cJ, 49, .inr (.inl ch))), (b3, .inl (cJ, 49, .inr (.inl la))), (b4, .inl (cJ, 128, .inr (.inl se))), (b5, .inl (cI, 13, .inl R.2.2.2.1))] R.1 A) args s 0 0 A) (F0 m 54 ls []) := by
  obtain ⟨hx, hb, hml, hown, hts, hrt, hlk, hK, hX, hA⟩ := id C0
  intro H locs ls hP hD hS hl
  unfold b_X7_set_54 at hf
  refine lv_aload_n hx hb dX7_set_54 rfl (lv_at hl 0 rfl) ?_
  refine q_get (TT := TX7) C0 in_X7_set_X7 2 m_X7_set_f7 hP 0 rfl rfl (by decide) rfl rfl dX7_set_55 ?_
  refine lv_iload_n hx hb dX7_set_58 rfl (lv_at hl 1 rfl) ?_
  obtain ⟨hin5, hf⟩ := q_gd hf
  refine q_iald (v := mr (Int32.toNatClampNeg x1)) C0 hP 1 0 rfl rfl hin5 rfl dX7_set_59 ?_
  refine lv_istore_n (lv' := [(3, .int (mr (Int32.toNatClampNeg x1))), (0, .ref bM), (1, .int x1), (2, .int x2)]) hx hb dX7_set_60 rfl hl (by decide) rfl (fun ls hl => ?_)
  refine lv_aload_n hx hb dX7_set_61 rfl (lv_at hl 1 rfl) ?_
  refine q_get (TT := TX7) C0 in_X7_set_X7 2 m_X7_set_f7 hP 0 rfl rfl (by decide) rfl rfl dX7_set_62 ?_
  refine lv_iload_n hx hb dX7_set_65 rfl (lv_at hl 2 rfl) ?_
  refine lv_iload_n hx hb dX7_set_66 rfl (lv_at hl 3 rfl) ?_
  obtain ⟨hin6, hf⟩ := q_gd hf
  refine q_iast (g := upd mr (Int32.toNatClampNeg x1) x2) C0 hP hD hS 1 0 rfl rfl hin6 rfl dX7_set_67 (fun H locs hP hD hS => ?_)
  have hP : va_P (dC, dI) vwCl [(bM, .inr (7, [.int th, .long tc, .ref b0, .int pd, .ref b1, .ref b2, .ref b3, .long be, .ref b4, .ref b5, .int fs])), (b0, .inl (cI, 7, .inl (upd mr (Int32.toNatClampNeg x1) x2))), (b1, .inl (cI, 400, .inl mp)), (b2, .inl (cJ, 49, .inr (.inl ch))), (b3, .inl (cJ, 49, .inr (.inl la))), (b4, .inl (cJ, 128, .inr (.inl se))), (b5, .inl (cI, 13, .inl ta))] H := hP
  have hD : va_D A [(bM, .inr (7, [.int th, .long tc, .ref b0, .int pd, .ref b1, .ref b2, .ref b3, .long be, .ref b4, .ref b5, .int fs])), (b0, .inl (cI, 7, .inl (upd mr (Int32.toNatClampNeg x1) x2))), (b1, .inl (cI, 400, .inl mp)), (b2, .inl (cJ, 49, .inr (.inl ch))), (b3, .inl (cJ, 49, .inr (.inl la))), (b4, .inl (cJ, 128, .inr (.inl se))), (b5, .inl (cI, 13, .inl ta))] := hD
  refine lv_aload_n hx hb dX7_set_68 rfl (lv_at hl 1 rfl) ?_
  refine q_get (TT := TX7) C0 in_X7_set_X7 2 m_X7_set_f7 hP 0 rfl rfl (by decide) rfl rfl dX7_set_69 ?_
  refine lv_iconst (v := 5) hx hb dX7_set_72 (by decide) ?_
  refine lv_iload_n hx hb dX7_set_73 rfl (lv_at hl 2 rfl) ?_
  refine lv_iconst (v := 2) hx hb dX7_set_74 (by decide) ?_
  refine lv_icmp_ne (tgt := 82) hx hb dX7_set_75 (by decide) (fun hc7 => ?_) (fun hc7 => ?_)
  · have hf := q_nif hf hc7
    refine lv_aload_n hx hb dX7_set_82 rfl (lv_at hl 1 rfl) ?_
    refine q_get (TT := TX7) C0 in_X7_set_X7 2 m_X7_set_f7 hP 0 rfl rfl (by decide) rfl rfl dX7_set_83 ?_
    refine lv_iconst (v := 5) hx hb dX7_set_86 (by decide) ?_
    refine q_iald (v := (upd mr (Int32.toNatClampNeg x1) x2) 5) C0 hP 1 0 rfl rfl (by unfold vp_in; decide) rfl dX7_set_87 ?_
    exact B_X7_set_88 C0 hf H locs ls hP hD hS (lv_sub hl [1, 0] rfl)
  · have hf := q_if hf hc7
    refine lv_iconst (v := 0) hx hb dX7_set_78 (by decide) ?_
    refine lv_goto (tgt := 88) hx hb dX7_set_79 (by decide) ?_
    exact B_X7_set_88 C0 hf H locs ls hP hD hS (lv_sub hl [1, 0] rfl)
set_option maxHeartbeats 4000000 in
set_option maxRecDepth 100000 in
theorem B_X7_set_26 {p : Program} {l : Launch} {e : Env} {s : State} {m : MethodId} {args : Array Value} {below : List Frame} {meth : Method} {c : Code} {A : Nat → Prop} {dC : Nat → ClassId} {dI : Nat → Nat → Nat} {cI cJ cZ : ClassId} {bM b0 b1 b2 b3 b4 b5 : Nat} (C0 : q_C p s m args meth c (dC, dI) (q_T cI cJ cZ) A RX7 wsX7_set cX7_set 4 (some .int)) {x1 : Int32} {x2 : Int32} {s0 : Int32} {s1 : Int32} {th : Int32} {tc : Int64} {mr : (Nat → Int32)} {pd : Int32} {mp : (Nat → Int32)} {ch : (Nat → Int64)} {la : (Nat → Int64)} {be : Int64} {se : (Nat → Int64)} {ta : (Nat → Int32)} {fs : Int32} {R : Int32 × Int32 × (Nat → Int32) × (Nat → Int32) × Int32} (hf : b_X7_set_26 x1 x2 s0 s1 th tc mr pd mp ch la be se ta fs = some R) : ∀ (H : Heap) (locs : List Loc) (ls : Array Slot), va_P (dC, dI) vwCl [(bM, .inr (7, [.int th, .long tc, .ref b0, .int pd, .ref b1, .ref b2, .ref b3, .long be, .ref b4, .ref b5, .int fs])), (b0, .inl (cI, 7, .inl mr)), (b1, .inl (cI, 400, .inl mp)), (b2, .inl (cJ, 49, .inr (.inl ch))), (b3, .inl (cJ, 49, .inr (.inl la))), (b4, .inl (cJ, 128, .inr (.inl se))), (b5, .inl (cI, 13, .inl ta))] H → va_D A [(bM, .inr (7, [.int th, .long tc, .ref b0, .int pd, .ref b1, .ref b2, .ref b3, .long be, .ref b4, .ref b5, .int fs])), (b0, .inl (cI, 7, .inl mr)), (b1, .inl (cI, 400, .inl mp)), (b2, .inl (cJ, 49, .inr (.inl ch))), (b3, .inl (cJ, 49, .inr (.inl la))), (b4, .inl (cJ, 128, .inr (.inl se))), (b5, .inl (cI, 13, .inl ta))] → va_S A s.heap H locs → lv_has ls 4 [(0, .ref bM), (1, .int x1), (2, .int x2)] → W p l e rmX7_set s m args below meth c H locs 0 0 (MQ below (qI (dC, dI) (q_T cI cJ cZ) [(bM, .inr (7, [.int R.2.1, .long tc, .ref b0, .int pd, .ref b1, .ref b2, .ref b3, .long be, .ref b4, .ref b5, .int R.2.2.2.2])), (b0, .inl (cI, 7, .inl R.2.2.1)), (b1, .inl (cI, 400, .inl mp)), (b2, .inl (cJ, 49, .inr (.inl ch))), (b3, .inl (cJ, 49, .inr (.inl la))), (b4, .inl (cJ, 128, .inr (.inl se))), (b5, .inl (cI, 13, .inl R.2.2.2.1))] R.1 A) args s 0 0 A) (F0 m 26 ls [.int s0, .int s1]) := by
  obtain ⟨hx, hb, hml, hown, hts, hrt, hlk, hK, hX, hA⟩ := id C0
  intro H locs ls hP hD hS hl
  unfold b_X7_set_26 at hf
  refine lv_aload_n hx hb dX7_set_26 rfl (lv_at hl 0 rfl) ?_
  refine lv_iload_n hx hb dX7_set_27 rfl (lv_at hl 1 rfl) ?_
  obtain ⟨r8, hg9, hf⟩ := q_e1 hf
  refine q_endI (wc := [(bM, .inr (7, [.int th, .long tc, .ref b0, .int pd, .ref b1, .ref b2, .ref b3, .long be, .ref b4, .ref b5, .int fs])), (b0, .inl (cI, 7, .inl mr)), (b1, .inl (cI, 400, .inl mp)), (b2, .inl (cJ, 49, .inr (.inl ch))), (b3, .inl (cJ, 49, .inr (.inl la))), (b4, .inl (cJ, 128, .inr (.inl se))), (b5, .inl (cI, 13, .inl ta))]) (wr := []) (w1 := [(bM, .inr (7, [.int th, .long tc, .ref b0, .int pd, .ref b1, .ref b2, .ref b3, .long be, .ref b4, .ref b5, .int fs])), (b0, .inl (cI, 7, .inl mr)), (b1, .inl (cI, 400, .inl mp)), (b2, .inl (cJ, 49, .inr (.inl ch))), (b3, .inl (cJ, 49, .inr (.inl la))), (b4, .inl (cJ, 128, .inr (.inl se))), (b5, .inl (cI, 13, .inl ta))]) (rv := r8) C0 hP hD hS [0, 1, 2, 3, 4, 5, 6] [] rfl rfl (by decide) (by decide) (q_runV (TT := TX7) (N := 11) (ci := 7) (q0 := 0) C0 (c_X7_most (l := l) hg9) (cwV 1 hts gX7_set_X7_most rfl rfl rfl (by decide +kernel) ⟨Nat.le_of_ble_eq_true rfl, Nat.le_of_ble_eq_true rfl⟩) hP hD hS [0, 1, 2, 3, 4, 5, 6] rfl (by decide) rfl rfl rfl rfl hl.1 (Nat.le_of_ble_eq_true rfl) dX7_set_28) (fun H locs hP hD hS => ?_)
  have hP : va_P (dC, dI) vwCl [(bM, .inr (7, [.int th, .long tc, .ref b0, .int pd, .ref b1, .ref b2, .ref b3, .long be, .ref b4, .ref b5, .int fs])), (b0, .inl (cI, 7, .inl mr)), (b1, .inl (cI, 400, .inl mp)), (b2, .inl (cJ, 49, .inr (.inl ch))), (b3, .inl (cJ, 49, .inr (.inl la))), (b4, .inl (cJ, 128, .inr (.inl se))), (b5, .inl (cI, 13, .inl ta))] H := hP
  have hD : va_D A [(bM, .inr (7, [.int th, .long tc, .ref b0, .int pd, .ref b1, .ref b2, .ref b3, .long be, .ref b4, .ref b5, .int fs])), (b0, .inl (cI, 7, .inl mr)), (b1, .inl (cI, 400, .inl mp)), (b2, .inl (cJ, 49, .inr (.inl ch))), (b3, .inl (cJ, 49, .inr (.inl la))), (b4, .inl (cJ, 128, .inr (.inl se))), (b5, .inl (cI, 13, .inl ta))] := hD
  obtain ⟨r10, hg11, hf⟩ := q_e1 hf
  refine q_endI (wc := []) (wr := [(bM, .inr (7, [.int th, .long tc, .ref b0, .int pd, .ref b1, .ref b2, .ref b3, .long be, .ref b4, .ref b5, .int fs])), (b0, .inl (cI, 7, .inl mr)), (b1, .inl (cI, 400, .inl mp)), (b2, .inl (cJ, 49, .inr (.inl ch))), (b3, .inl (cJ, 49, .inr (.inl la))), (b4, .inl (cJ, 128, .inr (.inl se))), (b5, .inl (cI, 13, .inl ta))]) (w1 := []) (rv := r10) C0 hP hD hS [] [0, 1, 2, 3, 4, 5, 6] rfl rfl (by decide) (by decide) (q_runS C0 (c_X7_in (l := l) hg11) (va_cwS 3 hts gX7_set_X7_in rfl rfl rfl (by decide +kernel) ⟨Nat.le_of_ble_eq_true rfl, Nat.le_of_ble_eq_true rfl⟩) hP hD hS [] rfl (by decide) rfl rfl hl.1 (Nat.le_of_ble_eq_true rfl) dX7_set_31) (fun H locs hP hD hS => ?_)
  have hP : va_P (dC, dI) vwCl [(bM, .inr (7, [.int th, .long tc, .ref b0, .int pd, .ref b1, .ref b2, .ref b3, .long be, .ref b4, .ref b5, .int fs])), (b0, .inl (cI, 7, .inl mr)), (b1, .inl (cI, 400, .inl mp)), (b2, .inl (cJ, 49, .inr (.inl ch))), (b3, .inl (cJ, 49, .inr (.inl la))), (b4, .inl (cJ, 128, .inr (.inl se))), (b5, .inl (cI, 13, .inl ta))] H := hP
  have hD : va_D A [(bM, .inr (7, [.int th, .long tc, .ref b0, .int pd, .ref b1, .ref b2, .ref b3, .long be, .ref b4, .ref b5, .int fs])), (b0, .inl (cI, 7, .inl mr)), (b1, .inl (cI, 400, .inl mp)), (b2, .inl (cJ, 49, .inr (.inl ch))), (b3, .inl (cJ, 49, .inr (.inl la))), (b4, .inl (cJ, 128, .inr (.inl se))), (b5, .inl (cI, 13, .inl ta))] := hD
  refine lv_if_ne (tgt := 39) hx hb dX7_set_34 (by decide) (fun hc12 => ?_) (fun hc12 => ?_)
  · have hf := q_nif hf hc12
    refine lv_iload_n hx hb dX7_set_39 rfl (lv_at hl 1 rfl) ?_
    refine lv_iconst (v := 1) hx hb dX7_set_40 (by decide) ?_
    refine lv_icmp_le (tgt := 54) hx hb dX7_set_41 (by decide) (fun hc13 => ?_) (fun hc13 => ?_)
    · have hf := q_if hf hc13
      exact B_X7_set_54 C0 hf H locs ls hP hD hS hl
    · have hf := q_nif hf hc13
      refine lv_aload_n hx hb dX7_set_44 rfl (lv_at hl 0 rfl) ?_
      refine q_get (TT := TX7) C0 in_X7_set_X7 3 m_X7_set_f44 hP 0 rfl rfl (by decide) rfl rfl dX7_set_45 ?_
      refine lv_if_le (tgt := 54) hx hb dX7_set_48 (by decide) (fun hc14 => ?_) (fun hc14 => ?_)
      · have hf := q_if hf hc14
        exact B_X7_set_54 C0 hf H locs ls hP hD hS hl
      · have hf := q_nif hf hc14
        refine lv_bipush (v := (-2)) hx hb dX7_set_51 (by decide) ?_
        obtain rfl := Option.some.inj hf
        exact q_retI C0 hP hD hS dX7_set_53
  · have hf := q_if hf hc12
    refine lv_iconst (v := (-1)) hx hb dX7_set_37 (by decide) ?_
    obtain rfl := Option.some.inj hf
    exact q_retI C0 hP hD hS dX7_set_38
set_option maxHeartbeats 4000000 in
set_option maxRecDepth 100000 in
theorem B_X7_set_0 {p : Program} {l : Launch} {e : Env} {s : State} {m : MethodId} {args : Array Value} {below : List Frame} {meth : Method} {c : Code} {A : Nat → Prop} {dC : Nat → ClassId} {dI : Nat → Nat → Nat} {cI cJ cZ : ClassId} {bM b0 b1 b2 b3 b4 b5 : Nat} (C0 : q_C p s m args meth c (dC, dI) (q_T cI cJ cZ) A RX7 wsX7_set cX7_set 4 (some .int)) {x1 : Int32} {x2 : Int32} {th : Int32} {tc : Int64} {mr : (Nat → Int32)} {pd : Int32} {mp : (Nat → Int32)} {ch : (Nat → Int64)} {la : (Nat → Int64)} {be : Int64} {se : (Nat → Int64)} {ta : (Nat → Int32)} {fs : Int32} {R : Int32 × Int32 × (Nat → Int32) × (Nat → Int32) × Int32} (hf : f_X7_set x1 x2 th tc mr pd mp ch la be se ta fs = some R) : ∀ (H : Heap) (locs : List Loc) (ls : Array Slot), va_P (dC, dI) vwCl [(bM, .inr (7, [.int th, .long tc, .ref b0, .int pd, .ref b1, .ref b2, .ref b3, .long be, .ref b4, .ref b5, .int fs])), (b0, .inl (cI, 7, .inl mr)), (b1, .inl (cI, 400, .inl mp)), (b2, .inl (cJ, 49, .inr (.inl ch))), (b3, .inl (cJ, 49, .inr (.inl la))), (b4, .inl (cJ, 128, .inr (.inl se))), (b5, .inl (cI, 13, .inl ta))] H → va_D A [(bM, .inr (7, [.int th, .long tc, .ref b0, .int pd, .ref b1, .ref b2, .ref b3, .long be, .ref b4, .ref b5, .int fs])), (b0, .inl (cI, 7, .inl mr)), (b1, .inl (cI, 400, .inl mp)), (b2, .inl (cJ, 49, .inr (.inl ch))), (b3, .inl (cJ, 49, .inr (.inl la))), (b4, .inl (cJ, 128, .inr (.inl se))), (b5, .inl (cI, 13, .inl ta))] → va_S A s.heap H locs → lv_has ls 4 [(0, .ref bM), (1, .int x1), (2, .int x2)] → W p l e rmX7_set s m args below meth c H locs 0 0 (MQ below (qI (dC, dI) (q_T cI cJ cZ) [(bM, .inr (7, [.int R.2.1, .long tc, .ref b0, .int pd, .ref b1, .ref b2, .ref b3, .long be, .ref b4, .ref b5, .int R.2.2.2.2])), (b0, .inl (cI, 7, .inl R.2.2.1)), (b1, .inl (cI, 400, .inl mp)), (b2, .inl (cJ, 49, .inr (.inl ch))), (b3, .inl (cJ, 49, .inr (.inl la))), (b4, .inl (cJ, 128, .inr (.inl se))), (b5, .inl (cI, 13, .inl R.2.2.2.1))] R.1 A) args s 0 0 A) (F0 m 0 ls []) := by
  obtain ⟨hx, hb, hml, hown, hts, hrt, hlk, hK, hX, hA⟩ := id C0
  intro H locs ls hP hD hS hl
  unfold f_X7_set at hf
  refine lv_aload_n hx hb dX7_set_0 rfl (lv_at hl 0 rfl) ?_
  refine lv_iconst (v := 0) hx hb dX7_set_1 (by decide) ?_
  refine q_put (ty := .int) (TT := TX7) C0 in_X7_set_X7 tyX7 tyX7_ok nmX7 0 m_X7_set_f32 hP hD hS 0 rfl rfl (by decide) rfl rfl (by decide +kernel) rfl rfl (Nat.le_of_ble_eq_true rfl) dX7_set_2 (fun H locs hP hD hS => ?_)
  have hP : va_P (dC, dI) vwCl [(bM, .inr (7, [.int 0, .long tc, .ref b0, .int pd, .ref b1, .ref b2, .ref b3, .long be, .ref b4, .ref b5, .int fs])), (b0, .inl (cI, 7, .inl mr)), (b1, .inl (cI, 400, .inl mp)), (b2, .inl (cJ, 49, .inr (.inl ch))), (b3, .inl (cJ, 49, .inr (.inl la))), (b4, .inl (cJ, 128, .inr (.inl se))), (b5, .inl (cI, 13, .inl ta))] H := hP
  have hD : va_D A [(bM, .inr (7, [.int 0, .long tc, .ref b0, .int pd, .ref b1, .ref b2, .ref b3, .long be, .ref b4, .ref b5, .int fs])), (b0, .inl (cI, 7, .inl mr)), (b1, .inl (cI, 400, .inl mp)), (b2, .inl (cJ, 49, .inr (.inl ch))), (b3, .inl (cJ, 49, .inr (.inl la))), (b4, .inl (cJ, 128, .inr (.inl se))), (b5, .inl (cI, 13, .inl ta))] := hD
  refine lv_iload_n hx hb dX7_set_5 rfl (lv_at hl 1 rfl) ?_
  refine lv_iconst (v := 0) hx hb dX7_set_6 (by decide) ?_
  refine lv_bipush (v := 6) hx hb dX7_set_7 (by decide) ?_
  obtain ⟨r15, hg16, hf⟩ := q_e1 hf
  refine q_endI (wc := []) (wr := [(bM, .inr (7, [.int 0, .long tc, .ref b0, .int pd, .ref b1, .ref b2, .ref b3, .long be, .ref b4, .ref b5, .int fs])), (b0, .inl (cI, 7, .inl mr)), (b1, .inl (cI, 400, .inl mp)), (b2, .inl (cJ, 49, .inr (.inl ch))), (b3, .inl (cJ, 49, .inr (.inl la))), (b4, .inl (cJ, 128, .inr (.inl se))), (b5, .inl (cI, 13, .inl ta))]) (w1 := []) (rv := r15) C0 hP hD hS [] [0, 1, 2, 3, 4, 5, 6] rfl rfl (by decide) (by decide) (q_runS C0 (c_X7_in (l := l) hg16) (va_cwS 3 hts gX7_set_X7_in rfl rfl rfl (by decide +kernel) ⟨Nat.le_of_ble_eq_true rfl, Nat.le_of_ble_eq_true rfl⟩) hP hD hS [] rfl (by decide) rfl rfl hl.1 (Nat.le_of_ble_eq_true rfl) dX7_set_9) (fun H locs hP hD hS => ?_)
  have hP : va_P (dC, dI) vwCl [(bM, .inr (7, [.int 0, .long tc, .ref b0, .int pd, .ref b1, .ref b2, .ref b3, .long be, .ref b4, .ref b5, .int fs])), (b0, .inl (cI, 7, .inl mr)), (b1, .inl (cI, 400, .inl mp)), (b2, .inl (cJ, 49, .inr (.inl ch))), (b3, .inl (cJ, 49, .inr (.inl la))), (b4, .inl (cJ, 128, .inr (.inl se))), (b5, .inl (cI, 13, .inl ta))] H := hP
  have hD : va_D A [(bM, .inr (7, [.int 0, .long tc, .ref b0, .int pd, .ref b1, .ref b2, .ref b3, .long be, .ref b4, .ref b5, .int fs])), (b0, .inl (cI, 7, .inl mr)), (b1, .inl (cI, 400, .inl mp)), (b2, .inl (cJ, 49, .inr (.inl ch))), (b3, .inl (cJ, 49, .inr (.inl la))), (b4, .inl (cJ, 128, .inr (.inl se))), (b5, .inl (cI, 13, .inl ta))] := hD
  refine lv_if_eq (tgt := 37) hx hb dX7_set_12 (by decide) (fun hc17 => ?_) (fun hc17 => ?_)
  · have hf := q_if hf hc17
    refine lv_iconst (v := (-1)) hx hb dX7_set_37 (by decide) ?_
    obtain rfl := Option.some.inj hf
    exact q_retI C0 hP hD hS dX7_set_38
  · have hf := q_nif hf hc17
    refine lv_iload_n hx hb dX7_set_15 rfl (lv_at hl 2 rfl) ?_
    refine lv_iload_n hx hb dX7_set_16 rfl (lv_at hl 1 rfl) ?_
    refine lv_iconst (v := 5) hx hb dX7_set_17 (by decide) ?_
    refine lv_icmp_ge (tgt := 25) hx hb dX7_set_18 (by decide) (fun hc18 => ?_) (fun hc18 => ?_)
    · have hf := q_if hf hc18
      refine lv_iconst (v := 0) hx hb dX7_set_25 (by decide) ?_
      exact B_X7_set_26 C0 hf H locs ls hP hD hS hl
    · have hf := q_nif hf hc18
      refine lv_iconst (v := 1) hx hb dX7_set_21 (by decide) ?_
      refine lv_goto (tgt := 26) hx hb dX7_set_22 (by decide) ?_
      exact B_X7_set_26 C0 hf H locs ls hP hD hS hl
set_option maxHeartbeats 4000000 in
set_option maxRecDepth 100000 in
theorem c_X7_set {l : Launch} {dC : Nat → ClassId} {dI : Nat → Nat → Nat} {cI cJ cZ : ClassId} {bM b0 b1 b2 b3 b4 b5 : Nat} {x1 : Int32} {x2 : Int32} {th : Int32} {tc : Int64} {mr : (Nat → Int32)} {pd : Int32} {mp : (Nat → Int32)} {ch : (Nat → Int64)} {la : (Nat → Int64)} {be : Int64} {se : (Nat → Int64)} {ta : (Nat → Int32)} {fs : Int32} {R : Int32 × Int32 × (Nat → Int32) × (Nat → Int32) × Int32} (hf : f_X7_set x1 x2 th tc mr pd mp ch la be se ta fs = some R) : q_M l yX7_set wsX7_set rmX7_set (dC, dI) (q_T cI cJ cZ) [.ref bM, .int x1, .int x2] [(bM, .inr (7, [.int th, .long tc, .ref b0, .int pd, .ref b1, .ref b2, .ref b3, .long be, .ref b4, .ref b5, .int fs])), (b0, .inl (cI, 7, .inl mr)), (b1, .inl (cI, 400, .inl mp)), (b2, .inl (cJ, 49, .inr (.inl ch))), (b3, .inl (cJ, 49, .inr (.inl la))), (b4, .inl (cJ, 128, .inr (.inl se))), (b5, .inl (cI, 13, .inl ta))] (qI (dC, dI) (q_T cI cJ cZ) [(bM, .inr (7, [.int R.2.1, .long tc, .ref b0, .int pd, .ref b1, .ref b2, .ref b3, .long be, .ref b4, .ref b5, .int R.2.2.2.2])), (b0, .inl (cI, 7, .inl R.2.2.1)), (b1, .inl (cI, 400, .inl mp)), (b2, .inl (cJ, 49, .inr (.inl ch))), (b3, .inl (cJ, 49, .inr (.inl la))), (b4, .inl (cJ, 128, .inr (.inl se))), (b5, .inl (cI, 13, .inl R.2.2.2.1))] R.1) := by
  refine q_body (cc := cX7_set) (maxL := 4) (ret := (some .int)) (by decide) rfl (Nat.le_of_ble_eq_true rfl) ?_
  intro p e s m args below meth c A C0 ls hP hD hS hl
  have hl : lv_has ls 4 [(0, .ref bM), (1, .int x1), (2, .int x2)] := hl
  exact B_X7_set_0 C0 hf s.heap [] ls hP hD hS hl
/-! ## RungPlayModel.won -/
abbrev rmX7_won : Room := { frames := 1, cells := 0, slots := 0, locals := 24 }
theorem m_X7_won_f47 : Cond.fieldLink RX7 47 RX7 "trace" "J" ∈ wsX7_won := by decide +kernel
theorem in_X7_won_X7 : ∀ w ∈ wsX70, w ∈ wsX7_won := by decide +kernel
theorem m_X7_won_f32 : Cond.fieldLink RX7 32 RX7 "thrown" "I" ∈ wsX7_won := by decide +kernel
theorem m_X7_won_k53 : Cond.constantLong RX7 53 (111) ∈ wsX7_won := by decide +kernel
theorem m_X7_won_k51 : Cond.constantLong RX7 51 (11) ∈ wsX7_won := by decide +kernel
noncomputable def b_X7_won_63 (x1 : Int32) (x2 : Int32) (x3 : Int32) (s0 : Int64) (s1 : Int64) (th : Int32) (tc : Int64) (mr : (Nat → Int32)) (pd : Int32) (mp : (Nat → Int32)) (ch : (Nat → Int64)) (la : (Nat → Int64)) (be : Int64) (se : (Nat → Int64)) (ta : (Nat → Int32)) (fs : Int32) : Option (Int32 × Int32 × Int64) :=
  (q_b1 (f_X7_wonOf x1 x2 x3 th (s1 + s0) mr pd mp ch la be se ta fs) (fun r1 => (some (r1, th, s1 + s0))))
noncomputable def f_X7_won (x1 : Int32) (x2 : Int32) (x3 : Int32) (th : Int32) (tc : Int64) (mr : (Nat → Int32)) (pd : Int32) (mp : (Nat → Int32)) (ch : (Nat → Int64)) (la : (Nat → Int64)) (be : Int64) (se : (Nat → Int64)) (ta : (Nat → Int32)) (fs : Int32) : Option (Int32 × Int32 × Int64) :=
  (q_b1 (f_X7_in x1 0 2) (fun r3 => (if r3 = 0 then (some ((-1), 0, tc)) else (q_b1 (f_X7_in x2 0 20) (fun r6 => (if r6 = 0 then (some ((-1), 0, tc)) else (q_b1 (f_X7_in x3 0 20) (fun r9 => (if r9 = 0 then (some ((-1), 0, tc)) else (if x1 = 0 then (b_X7_won_63 x1 x2 x3 (1 : Int64) tc 0 tc mr pd mp ch la be se ta fs) else (if x1 = 1 then (b_X7_won_63 x1 x2 x3 (11 : Int64) tc 0 tc mr pd mp ch la be se ta fs) else (b_X7_won_63 x1 x2 x3 (111 : Int64) tc 0 tc mr pd mp ch la be se ta fs))))))))))))
set_option maxHeartbeats 4000000 in
set_option maxRecDepth 100000 in
theorem B_X7_won_63 {p : Program} {l : Launch} {e : Env} {s : State} {m : MethodId} {args : Array Value} {below : List Frame} {meth : Method} {c : Code} {A : Nat → Prop} {dC : Nat → ClassId} {dI : Nat → Nat → Nat} {cI cJ cZ : ClassId} {bM b0 b1 b2 b3 b4 b5 : Nat} (C0 : q_C p s m args meth c (dC, dI) (q_T cI cJ cZ) A RX7 wsX7_won cX7_won 4 (some .int)) {x1 : Int32} {x2 : Int32} {x3 : Int32} {s0 : Int64} {s1 : Int64} {th : Int32} {tc : Int64} {mr : (Nat → Int32)} {pd : Int32} {mp : (Nat → Int32)} {ch : (Nat → Int64)} {la : (Nat → Int64)} {be : Int64} {se : (Nat → Int64)} {ta : (Nat → Int32)} {fs : Int32} {R : Int32 × Int32 × Int64} (hf : b_X7_won_63 x1 x2 x3 s0 s1 th tc mr pd mp ch la be se ta fs = some R) : ∀ (H : Heap) (locs : List Loc) (ls : Array Slot), va_P (dC, dI) vwCl [(bM, .inr (7, [.int th, .long tc, .ref b0, .int pd, .ref b1, .ref b2, .ref b3, .long be, .ref b4, .ref b5, .int fs])), (b0, .inl (cI, 7, .inl mr)), (b1, .inl (cI, 400, .inl mp)), (b2, .inl (cJ, 49, .inr (.inl ch))), (b3, .inl (cJ, 49, .inr (.inl la))), (b4, .inl (cJ, 128, .inr (.inl se))), (b5, .inl (cI, 13, .inl ta))] H → va_D A [(bM, .inr (7, [.int th, .long tc, .ref b0, .int pd, .ref b1, .ref b2, .ref b3, .long be, .ref b4, .ref b5, .int fs])), (b0, .inl (cI, 7, .inl mr)), (b1, .inl (cI, 400, .inl mp)), (b2, .inl (cJ, 49, .inr (.inl ch))), (b3, .inl (cJ, 49, .inr (.inl la))), (b4, .inl (cJ, 128, .inr (.inl se))), (b5, .inl (cI, 13, .inl ta))] → va_S A s.heap H locs → lv_has ls 4 [(0, .ref bM), (1, .int x1), (2, .int x2), (3, .int x3)] → W p l e rmX7_won s m args below meth c H locs 0 0 (MQ below (qI (dC, dI) (q_T cI cJ cZ) [(bM, .inr (7, [.int R.2.1, .long R.2.2, .ref b0, .int pd, .ref b1, .ref b2, .ref b3, .long be, .ref b4, .ref b5, .int fs])), (b0, .inl (cI, 7, .inl mr)), (b1, .inl (cI, 400, .inl mp)), (b2, .inl (cJ, 49, .inr (.inl ch))), (b3, .inl (cJ, 49, .inr (.inl la))), (b4, .inl (cJ, 128, .inr (.inl se))), (b5, .inl (cI, 13, .inl ta))] R.1 A) args s 0 0 A) (F0 m 63 ls [.long s0, .long s1, .ref bM]) := by
  obtain ⟨hx, hb, hml, hown, hts, hrt, hlk, hK, hX, hA⟩ := id C0
  intro H locs ls hP hD hS hl
  unfold b_X7_won_63 at hf
  refine lv_ladd hx hb dX7_won_63 ?_
  refine q_put (ty := .long) (TT := TX7) C0 in_X7_won_X7 tyX7 tyX7_ok nmX7 1 m_X7_won_f47 hP hD hS 0 rfl rfl (by decide) rfl rfl (by decide +kernel) rfl rfl (Nat.le_of_ble_eq_true rfl) dX7_won_64 (fun H locs hP hD hS => ?_)
  have hP : va_P (dC, dI) vwCl [(bM, .inr (7, [.int th, .long (s1 + s0), .ref b0, .int pd, .ref b1, .ref b2, .ref b3, .long be, .ref b4, .ref b5, .int fs])), (b0, .inl (cI, 7, .inl mr)), (b1, .inl (cI, 400, .inl mp)), (b2, .inl (cJ, 49, .inr (.inl ch))), (b3, .inl (cJ, 49, .inr (.inl la))), (b4, .inl (cJ, 128, .inr (.inl se))), (b5, .inl (cI, 13, .inl ta))] H := hP
  have hD : va_D A [(bM, .inr (7, [.int th, .long (s1 + s0), .ref b0, .int pd, .ref b1, .ref b2, .ref b3, .long be, .ref b4, .ref b5, .int fs])), (b0, .inl (cI, 7, .inl mr)), (b1, .inl (cI, 400, .inl mp)), (b2, .inl (cJ, 49, .inr (.inl ch))), (b3, .inl (cJ, 49, .inr (.inl la))), (b4, .inl (cJ, 128, .inr (.inl se))), (b5, .inl (cI, 13, .inl ta))] := hD
  refine lv_aload_n hx hb dX7_won_67 rfl (lv_at hl 0 rfl) ?_
  refine lv_iload_n hx hb dX7_won_68 rfl (lv_at hl 1 rfl) ?_
  refine lv_iload_n hx hb dX7_won_69 rfl (lv_at hl 2 rfl) ?_
  refine lv_iload_n hx hb dX7_won_70 rfl (lv_at hl 3 rfl) ?_
  obtain ⟨r1, hg2, hf⟩ := q_e1 hf
  refine q_endI (wc := [(bM, .inr (7, [.int th, .long (s1 + s0), .ref b0, .int pd, .ref b1, .ref b2, .ref b3, .long be, .ref b4, .ref b5, .int fs])), (b0, .inl (cI, 7, .inl mr)), (b1, .inl (cI, 400, .inl mp)), (b2, .inl (cJ, 49, .inr (.inl ch))), (b3, .inl (cJ, 49, .inr (.inl la))), (b4, .inl (cJ, 128, .inr (.inl se))), (b5, .inl (cI, 13, .inl ta))]) (wr := []) (w1 := [(bM, .inr (7, [.int th, .long (s1 + s0), .ref b0, .int pd, .ref b1, .ref b2, .ref b3, .long be, .ref b4, .ref b5, .int fs])), (b0, .inl (cI, 7, .inl mr)), (b1, .inl (cI, 400, .inl mp)), (b2, .inl (cJ, 49, .inr (.inl ch))), (b3, .inl (cJ, 49, .inr (.inl la))), (b4, .inl (cJ, 128, .inr (.inl se))), (b5, .inl (cI, 13, .inl ta))]) (rv := r1) C0 hP hD hS [0, 1, 2, 3, 4, 5, 6] [] rfl rfl (by decide) (by decide) (q_runV (TT := TX7) (N := 11) (ci := 7) (q0 := 0) C0 (c_X7_wonOf (l := l) hg2) (cwV 3 hts gX7_won_X7_wonOf rfl rfl rfl (by decide +kernel) ⟨Nat.le_of_ble_eq_true rfl, Nat.le_of_ble_eq_true rfl⟩) hP hD hS [0, 1, 2, 3, 4, 5, 6] rfl (by decide) rfl rfl rfl rfl hl.1 (Nat.le_of_ble_eq_true rfl) dX7_won_71) (fun H locs hP hD hS => ?_)
  have hP : va_P (dC, dI) vwCl [(bM, .inr (7, [.int th, .long (s1 + s0), .ref b0, .int pd, .ref b1, .ref b2, .ref b3, .long be, .ref b4, .ref b5, .int fs])), (b0, .inl (cI, 7, .inl mr)), (b1, .inl (cI, 400, .inl mp)), (b2, .inl (cJ, 49, .inr (.inl ch))), (b3, .inl (cJ, 49, .inr (.inl la))), (b4, .inl (cJ, 128, .inr (.inl se))), (b5, .inl (cI, 13, .inl ta))] H := hP
  have hD : va_D A [(bM, .inr (7, [.int th, .long (s1 + s0), .ref b0, .int pd, .ref b1, .ref b2, .ref b3, .long be, .ref b4, .ref b5, .int fs])), (b0, .inl (cI, 7, .inl mr)), (b1, .inl (cI, 400, .inl mp)), (b2, .inl (cJ, 49, .inr (.inl ch))), (b3, .inl (cJ, 49, .inr (.inl la))), (b4, .inl (cJ, 128, .inr (.inl se))), (b5, .inl (cI, 13, .inl ta))] := hD
  obtain rfl := Option.some.inj hf
  exact q_retI C0 hP hD hS dX7_won_74
set_option maxHeartbeats 4000000 in
set_option maxRecDepth 100000 in
theorem B_X7_won_0 {p : Program} {l : Launch} {e : Env} {s : State} {m : MethodId} {args : Array Value} {below : List Frame} {meth : Method} {c : Code} {A : Nat → Prop} {dC : Nat → ClassId} {dI : Nat → Nat → Nat} {cI cJ cZ : ClassId} {bM b0 b1 b2 b3 b4 b5 : Nat} (C0 : q_C p s m args meth c (dC, dI) (q_T cI cJ cZ) A RX7 wsX7_won cX7_won 4 (some .int)) {x1 : Int32} {x2 : Int32} {x3 : Int32} {th : Int32} {tc : Int64} {mr : (Nat → Int32)} {pd : Int32} {mp : (Nat → Int32)} {ch : (Nat → Int64)} {la : (Nat → Int64)} {be : Int64} {se : (Nat → Int64)} {ta : (Nat → Int32)} {fs : Int32} {R : Int32 × Int32 × Int64} (hf : f_X7_won x1 x2 x3 th tc mr pd mp ch la be se ta fs = some R) : ∀ (H : Heap) (locs : List Loc) (ls : Array Slot), va_P (dC, dI) vwCl [(bM, .inr (7, [.int th, .long tc, .ref b0, .int pd, .ref b1, .ref b2, .ref b3, .long be, .ref b4, .ref b5, .int fs])), (b0, .inl (cI, 7, .inl mr)), (b1, .inl (cI, 400, .inl mp)), (b2, .inl (cJ, 49, .inr (.inl ch))), (b3, .inl (cJ, 49, .inr (.inl la))), (b4, .inl (cJ, 128, .inr (.inl se))), (b5, .inl (cI, 13, .inl ta))] H → va_D A [(bM, .inr (7, [.int th, .long tc, .ref b0, .int pd, .ref b1, .ref b2, .ref b3, .long be, .ref b4, .ref b5, .int fs])), (b0, .inl (cI, 7, .inl mr)), (b1, .inl (cI, 400, .inl mp)), (b2, .inl (cJ, 49, .inr (.inl ch))), (b3, .inl (cJ, 49, .inr (.inl la))), (b4, .inl (cJ, 128, .inr (.inl se))), (b5, .inl (cI, 13, .inl ta))] → va_S A s.heap H locs → lv_has ls 4 [(0, .ref bM), (1, .int x1), (2, .int x2), (3, .int x3)] → W p l e rmX7_won s m args below meth c H locs 0 0 (MQ below (qI (dC, dI) (q_T cI cJ cZ) [(bM, .inr (7, [.int R.2.1, .long R.2.2, .ref b0, .int pd, .ref b1, .ref b2, .ref b3, .long be, .ref b4, .ref b5, .int fs])), (b0, .inl (cI, 7, .inl mr)), (b1, .inl (cI, 400, .inl mp)), (b2, .inl (cJ, 49, .inr (.inl ch))), (b3, .inl (cJ, 49, .inr (.inl la))), (b4, .inl (cJ, 128, .inr (.inl se))), (b5, .inl (cI, 13, .inl ta))] R.1 A) args s 0 0 A) (F0 m 0 ls []) := by
  obtain ⟨hx, hb, hml, hown, hts, hrt, hlk, hK, hX, hA⟩ := id C0
  intro H locs ls hP hD hS hl
  unfold f_X7_won at hf
  refine lv_aload_n hx hb dX7_won_0 rfl (lv_at hl 0 rfl) ?_
  refine lv_iconst (v := 0) hx hb dX7_won_1 (by decide) ?_
  refine q_put (ty := .int) (TT := TX7) C0 in_X7_won_X7 tyX7 tyX7_ok nmX7 0 m_X7_won_f32 hP hD hS 0 rfl rfl (by decide) rfl rfl (by decide +kernel) rfl rfl (Nat.le_of_ble_eq_true rfl) dX7_won_2 (fun H locs hP hD hS => ?_)
  have hP : va_P (dC, dI) vwCl [(bM, .inr (7, [.int 0, .long tc, .ref b0, .int pd, .ref b1, .ref b2, .ref b3, .long be, .ref b4, .ref b5, .int fs])), (b0, .inl (cI, 7, .inl mr)), (b1, .inl (cI, 400, .inl mp)), (b2, .inl (cJ, 49, .inr (.inl ch))), (b3, .inl (cJ, 49, .inr (.inl la))), (b4, .inl (cJ, 128, .inr (.inl se))), (b5, .inl (cI, 13, .inl ta))] H := hP
  have hD : va_D A [(bM, .inr (7, [.int 0, .long tc, .ref b0, .int pd, .ref b1, .ref b2, .ref b3, .long be, .ref b4, .ref b5, .int fs])), (b0, .inl (cI, 7, .inl mr)), (b1, .inl (cI, 400, .inl mp)), (b2, .inl (cJ, 49, .inr (.inl ch))), (b3, .inl (cJ, 49, .inr (.inl la))), (b4, .inl (cJ, 128, .inr (.inl se))), (b5, .inl (cI, 13, .inl ta))] := hD
  refine lv_iload_n hx hb dX7_won_5 rfl (lv_at hl 1 rfl) ?_
  refine lv_iconst (v := 0) hx hb dX7_won_6 (by decide) ?_
  refine lv_iconst (v := 2) hx hb dX7_won_7 (by decide) ?_
  obtain ⟨r3, hg4, hf⟩ := q_e1 hf
  refine q_endI (wc := []) (wr := [(bM, .inr (7, [.int 0, .long tc, .ref b0, .int pd, .ref b1, .ref b2, .ref b3, .long be, .ref b4, .ref b5, .int fs])), (b0, .inl (cI, 7, .inl mr)), (b1, .inl (cI, 400, .inl mp)), (b2, .inl (cJ, 49, .inr (.inl ch))), (b3, .inl (cJ, 49, .inr (.inl la))), (b4, .inl (cJ, 128, .inr (.inl se))), (b5, .inl (cI, 13, .inl ta))]) (w1 := []) (rv := r3) C0 hP hD hS [] [0, 1, 2, 3, 4, 5, 6] rfl rfl (by decide) (by decide) (q_runS C0 (c_X7_in (l := l) hg4) (va_cwS 3 hts gX7_won_X7_in rfl rfl rfl (by decide +kernel) ⟨Nat.le_of_ble_eq_true rfl, Nat.le_of_ble_eq_true rfl⟩) hP hD hS [] rfl (by decide) rfl rfl hl.1 (Nat.le_of_ble_eq_true rfl) dX7_won_8) (fun H locs hP hD hS => ?_)
  have hP : va_P (dC, dI) vwCl [(bM, .inr (7, [.int 0, .long tc, .ref b0, .int pd, .ref b1, .ref b2, .ref b3, .long be, .ref b4, .ref b5, .int fs])), (b0, .inl (cI, 7, .inl mr)), (b1, .inl (cI, 400, .inl mp)), (b2, .inl (cJ, 49, .inr (.inl ch))), (b3, .inl (cJ, 49, .inr (.inl la))), (b4, .inl (cJ, 128, .inr (.inl se))), (b5, .inl (cI, 13, .inl ta))] H := hP
  have hD : va_D A [(bM, .inr (7, [.int 0, .long tc, .ref b0, .int pd, .ref b1, .ref b2, .ref b3, .long be, .ref b4, .ref b5, .int fs])), (b0, .inl (cI, 7, .inl mr)), (b1, .inl (cI, 400, .inl mp)), (b2, .inl (cJ, 49, .inr (.inl ch))), (b3, .inl (cJ, 49, .inr (.inl la))), (b4, .inl (cJ, 128, .inr (.inl se))), (b5, .inl (cI, 13, .inl ta))] := hD
  refine lv_if_eq (tgt := 34) hx hb dX7_won_11 (by decide) (fun hc5 => ?_) (fun hc5 => ?_)
  · have hf := q_if hf hc5
    refine lv_iconst (v := (-1)) hx hb dX7_won_34 (by decide) ?_
    obtain rfl := Option.some.inj hf
    exact q_retI C0 hP hD hS dX7_won_35
  · have hf := q_nif hf hc5
    refine lv_iload_n hx hb dX7_won_14 rfl (lv_at hl 2 rfl) ?_
    refine lv_iconst (v := 0) hx hb dX7_won_15 (by decide) ?_
    refine lv_bipush (v := 20) hx hb dX7_won_16 (by decide) ?_
    obtain ⟨r6, hg7, hf⟩ := q_e1 hf
    refine q_endI (wc := []) (wr := [(bM, .inr (7, [.int 0, .long tc, .ref b0, .int pd, .ref b1, .ref b2, .ref b3, .long be, .ref b4, .ref b5, .int fs])), (b0, .inl (cI, 7, .inl mr)), (b1, .inl (cI, 400, .inl mp)), (b2, .inl (cJ, 49, .inr (.inl ch))), (b3, .inl (cJ, 49, .inr (.inl la))), (b4, .inl (cJ, 128, .inr (.inl se))), (b5, .inl (cI, 13, .inl ta))]) (w1 := []) (rv := r6) C0 hP hD hS [] [0, 1, 2, 3, 4, 5, 6] rfl rfl (by decide) (by decide) (q_runS C0 (c_X7_in (l := l) hg7) (va_cwS 3 hts gX7_won_X7_in rfl rfl rfl (by decide +kernel) ⟨Nat.le_of_ble_eq_true rfl, Nat.le_of_ble_eq_true rfl⟩) hP hD hS [] rfl (by decide) rfl rfl hl.1 (Nat.le_of_ble_eq_true rfl) dX7_won_18) (fun H locs hP hD hS => ?_)
    have hP : va_P (dC, dI) vwCl [(bM, .inr (7, [.int 0, .long tc, .ref b0, .int pd, .ref b1, .ref b2, .ref b3, .long be, .ref b4, .ref b5, .int fs])), (b0, .inl (cI, 7, .inl mr)), (b1, .inl (cI, 400, .inl mp)), (b2, .inl (cJ, 49, .inr (.inl ch))), (b3, .inl (cJ, 49, .inr (.inl la))), (b4, .inl (cJ, 128, .inr (.inl se))), (b5, .inl (cI, 13, .inl ta))] H := hP
    have hD : va_D A [(bM, .inr (7, [.int 0, .long tc, .ref b0, .int pd, .ref b1, .ref b2, .ref b3, .long be, .ref b4, .ref b5, .int fs])), (b0, .inl (cI, 7, .inl mr)), (b1, .inl (cI, 400, .inl mp)), (b2, .inl (cJ, 49, .inr (.inl ch))), (b3, .inl (cJ, 49, .inr (.inl la))), (b4, .inl (cJ, 128, .inr (.inl se))), (b5, .inl (cI, 13, .inl ta))] := hD
    refine lv_if_eq (tgt := 34) hx hb dX7_won_21 (by decide) (fun hc8 => ?_) (fun hc8 => ?_)
    · have hf := q_if hf hc8
      refine lv_iconst (v := (-1)) hx hb dX7_won_34 (by decide) ?_
      obtain rfl := Option.some.inj hf
      exact q_retI C0 hP hD hS dX7_won_35
    · have hf := q_nif hf hc8
      refine lv_iload_n hx hb dX7_won_24 rfl (lv_at hl 3 rfl) ?_
      refine lv_iconst (v := 0) hx hb dX7_won_25 (by decide) ?_
      refine lv_bipush (v := 20) hx hb dX7_won_26 (by decide) ?_
      obtain ⟨r9, hg10, hf⟩ := q_e1 hf
      refine q_endI (wc := []) (wr := [(bM, .inr (7, [.int 0, .long tc, .ref b0, .int pd, .ref b1, .ref b2, .ref b3, .long be, .ref b4, .ref b5, .int fs])), (b0, .inl (cI, 7, .inl mr)), (b1, .inl (cI, 400, .inl mp)), (b2, .inl (cJ, 49, .inr (.inl ch))), (b3, .inl (cJ, 49, .inr (.inl la))), (b4, .inl (cJ, 128, .inr (.inl se))), (b5, .inl (cI, 13, .inl ta))]) (w1 := []) (rv := r9) C0 hP hD hS [] [0, 1, 2, 3, 4, 5, 6] rfl rfl (by decide) (by decide) (q_runS C0 (c_X7_in (l := l) hg10) (va_cwS 3 hts gX7_won_X7_in rfl rfl rfl (by decide +kernel) ⟨Nat.le_of_ble_eq_true rfl, Nat.le_of_ble_eq_true rfl⟩) hP hD hS [] rfl (by decide) rfl rfl hl.1 (Nat.le_of_ble_eq_true rfl) dX7_won_28) (fun H locs hP hD hS => ?_)
      have hP : va_P (dC, dI) vwCl [(bM, .inr (7, [.int 0, .long tc, .ref b0, .int pd, .ref b1, .ref b2, .ref b3, .long be, .ref b4, .ref b5, .int fs])), (b0, .inl (cI, 7, .inl mr)), (b1, .inl (cI, 400, .inl mp)), (b2, .inl (cJ, 49, .inr (.inl ch))), (b3, .inl (cJ, 49, .inr (.inl la))), (b4, .inl (cJ, 128, .inr (.inl se))), (b5, .inl (cI, 13, .inl ta))] H := hP
      have hD : va_D A [(bM, .inr (7, [.int 0, .long tc, .ref b0, .int pd, .ref b1, .ref b2, .ref b3, .long be, .ref b4, .ref b5, .int fs])), (b0, .inl (cI, 7, .inl mr)), (b1, .inl (cI, 400, .inl mp)), (b2, .inl (cJ, 49, .inr (.inl ch))), (b3, .inl (cJ, 49, .inr (.inl la))), (b4, .inl (cJ, 128, .inr (.inl se))), (b5, .inl (cI, 13, .inl ta))] := hD
      refine lv_if_ne (tgt := 36) hx hb dX7_won_31 (by decide) (fun hc11 => ?_) (fun hc11 => ?_)
      · have hf := q_nif hf hc11
        refine lv_aload_n hx hb dX7_won_36 rfl (lv_at hl 0 rfl) ?_
        refine lv_dup hx hb dX7_won_37 rfl ?_
        refine q_get (TT := TX7) C0 in_X7_won_X7 1 m_X7_won_f47 hP 0 rfl rfl (by decide) rfl rfl dX7_won_38 ?_
        refine lv_iload_n hx hb dX7_won_41 rfl (lv_at hl 1 rfl) ?_
        refine lv_if_ne (tgt := 49) hx hb dX7_won_42 (by decide) (fun hc12 => ?_) (fun hc12 => ?_)
        · have hf := q_nif hf hc12
          refine lv_iload_n hx hb dX7_won_49 rfl (lv_at hl 1 rfl) ?_
          refine lv_iconst (v := 1) hx hb dX7_won_50 (by decide) ?_
          refine lv_icmp_ne (tgt := 60) hx hb dX7_won_51 (by decide) (fun hc13 => ?_) (fun hc13 => ?_)
          · have hf := q_nif hf hc13
            refine lv_ldc2 hx hb hown (hts _ m_X7_won_k53) dX7_won_60 ?_
            exact B_X7_won_63 C0 hf H locs ls hP hD hS hl
          · have hf := q_if hf hc13
            refine lv_ldc2 hx hb hown (hts _ m_X7_won_k51) dX7_won_54 ?_
            refine lv_goto (tgt := 63) hx hb dX7_won_57 (by decide) ?_
            exact B_X7_won_63 C0 hf H locs ls hP hD hS hl
        · have hf := q_if hf hc12
          refine lv_lconst (v := 1) hx hb dX7_won_45 (by decide) ?_
          refine lv_goto (tgt := 63) hx hb dX7_won_46 (by decide) ?_
          exact B_X7_won_63 C0 hf H locs ls hP hD hS hl
      · have hf := q_if hf hc11
        refine lv_iconst (v := (-1)) hx hb dX7_won_34 (by decide) ?_
        obtain rfl := Option.some.inj hf
        exact q_retI C0 hP hD hS dX7_won_35
set_option maxHeartbeats 4000000 in
set_option maxRecDepth 100000 in
theorem c_X7_won {l : Launch} {dC : Nat → ClassId} {dI : Nat → Nat → Nat} {cI cJ cZ : ClassId} {bM b0 b1 b2 b3 b4 b5 : Nat} {x1 : Int32} {x2 : Int32} {x3 : Int32} {th : Int32} {tc : Int64} {mr : (Nat → Int32)} {pd : Int32} {mp : (Nat → Int32)} {ch : (Nat → Int64)} {la : (Nat → Int64)} {be : Int64} {se : (Nat → Int64)} {ta : (Nat → Int32)} {fs : Int32} {R : Int32 × Int32 × Int64} (hf : f_X7_won x1 x2 x3 th tc mr pd mp ch la be se ta fs = some R) : q_M l yX7_won wsX7_won rmX7_won (dC, dI) (q_T cI cJ cZ) [.ref bM, .int x1, .int x2, .int x3] [(bM, .inr (7, [.int th, .long tc, .ref b0, .int pd, .ref b1, .ref b2, .ref b3, .long be, .ref b4, .ref b5, .int fs])), (b0, .inl (cI, 7, .inl mr)), (b1, .inl (cI, 400, .inl mp)), (b2, .inl (cJ, 49, .inr (.inl ch))), (b3, .inl (cJ, 49, .inr (.inl la))), (b4, .inl (cJ, 128, .inr (.inl se))), (b5, .inl (cI, 13, .inl ta))] (qI (dC, dI) (q_T cI cJ cZ) [(bM, .inr (7, [.int R.2.1, .long R.2.2, .ref b0, .int pd, .ref b1, .ref b2, .ref b3, .long be, .ref b4, .ref b5, .int fs])), (b0, .inl (cI, 7, .inl mr)), (b1, .inl (cI, 400, .inl mp)), (b2, .inl (cJ, 49, .inr (.inl ch))), (b3, .inl (cJ, 49, .inr (.inl la))), (b4, .inl (cJ, 128, .inr (.inl se))), (b5, .inl (cI, 13, .inl ta))] R.1) := by
  refine q_body (cc := cX7_won) (maxL := 4) (ret := (some .int)) (by decide) rfl (Nat.le_of_ble_eq_true rfl) ?_
  intro p e s m args below meth c A C0 ls hP hD hS hl
  have hl : lv_has ls 4 [(0, .ref bM), (1, .int x1), (2, .int x2), (3, .int x3)] := hl
  exact B_X7_won_0 C0 hf s.heap [] ls hP hD hS hl
/-! ## RungPlayModel.works -/
abbrev rmX7_works : Room := { frames := 1, cells := 0, slots := 0, locals := 24 }
theorem m_X7_works_f16 : Cond.fieldLink RX7 16 RX7 "chances" "[J" ∈ wsX7_works := by decide +kernel
theorem in_X7_works_X7 : ∀ w ∈ wsX70, w ∈ wsX7_works := by decide +kernel
theorem m_X7_works_k68 : Cond.constantLong RX7 68 (10) ∈ wsX7_works := by decide +kernel
theorem m_X7_works_f20 : Cond.fieldLink RX7 20 RX7 "lasting" "[J" ∈ wsX7_works := by decide +kernel
theorem m_X7_works_f61 : Cond.fieldLink RX7 61 RX7 "below" "J" ∈ wsX7_works := by decide +kernel
theorem m_X7_works_k64 : Cond.constantLong RX7 64 (100000000) ∈ wsX7_works := by decide +kernel
theorem m_X7_works_k70 : Cond.constantLong RX7 70 (200) ∈ wsX7_works := by decide +kernel
theorem m_X7_works_k66 : Cond.constantLong RX7 66 (200000000000) ∈ wsX7_works := by decide +kernel
theorem m_X7_works_f7 : Cond.fieldLink RX7 7 RX7 "rules" "[I" ∈ wsX7_works := by decide +kernel
theorem m_X7_works_k59 : Cond.constantLong RX7 59 (1000000000) ∈ wsX7_works := by decide +kernel
noncomputable def b_X7_works_381 (k : (Int32 × (Nat → Int64) × (Nat → Int64)) → Option (Int32 × (Nat → Int64) × (Nat → Int64))) (x2 : Int32) (x3 : Int32) (x4 : Int32) (x5 : Int64) (x7 : Int32) (x8 : Int32) (th : Int32) (tc : Int64) (mr : (Nat → Int32)) (pd : Int32) (mp : (Nat → Int32)) (ch : (Nat → Int64)) (la : (Nat → Int64)) (be : Int64) (se : (Nat → Int64)) (ta : (Nat → Int32)) (fs : Int32) : Option (Int32 × (Nat → Int64) × (Nat → Int64)) :=
  (k (x8 + 1, ch, la))
noncomputable def b_X7_works_288 (k : (Int32 × (Nat → Int64) × (Nat → Int64)) → Option (Int32 × (Nat → Int64) × (Nat → Int64))) (x2 : Int32) (x3 : Int32) (x4 : Int32) (x5 : Int64) (x7 : Int32) (x8 : Int32) (x9 : Int32) (x10 : Int32) (th : Int32) (tc : Int64) (mr : (Nat → Int32)) (pd : Int32) (mp : (Nat → Int32)) (ch : (Nat → Int64)) (la : (Nat → Int64)) (be : Int64) (se : (Nat → Int64)) (ta : (Nat → Int32)) (fs : Int32) : Option (Int32 × (Nat → Int64) × (Nat → Int64)) :=
  (if x2 < x8 then (b_X7_works_381 k x2 x3 x4 x5 x7 x8 th tc mr pd mp ch la be se ta fs) else (if x2 < x9 then (b_X7_works_381 k x2 x3 x4 x5 x7 x8 th tc mr pd mp ch la be se ta fs) else (if x10 + 7 < 0 ∨ 49 ≤ Int32.toNatClampNeg (x10 + 7) then none else (if x10 + 1 < 0 ∨ 49 ≤ Int32.toNatClampNeg (x10 + 1) then none else (if x10 < 0 ∨ 49 ≤ Int32.toNatClampNeg x10 then none else (if x10 + 7 < 0 ∨ 49 ≤ Int32.toNatClampNeg (x10 + 7) then none else (if x10 + 1 < 0 ∨ 49 ≤ Int32.toNatClampNeg (x10 + 1) then none else (if x10 < 0 ∨ 49 ≤ Int32.toNatClampNeg x10 then none else (b_X7_works_381 k x2 x3 x4 x5 x7 x8 th tc mr pd mp (vp_updL ch (Int32.toNatClampNeg x10) ((((Int32.toInt64 x3) * (ch (Int32.toNatClampNeg (x10 + 7)))) + ((Int32.toInt64 x4) * (ch (Int32.toNatClampNeg (x10 + 1))))) / (10 : Int64))) (vp_updL la (Int32.toNatClampNeg x10) (be + ((((Int32.toInt64 x3) * (la (Int32.toNatClampNeg (x10 + 7)))) + ((Int32.toInt64 x4) * (la (Int32.toNatClampNeg (x10 + 1))))) / (10 : Int64)))) be se ta fs)))))))))
noncomputable def b_X7_works_284 (k : (Int32 × (Nat → Int64) × (Nat → Int64)) → Option (Int32 × (Nat → Int64) × (Nat → Int64))) (x2 : Int32) (x3 : Int32) (x4 : Int32) (x5 : Int64) (x7 : Int32) (x8 : Int32) (s0 : Int64) (s1 : Int32) (th : Int32) (tc : Int64) (mr : (Nat → Int32)) (pd : Int32) (mp : (Nat → Int32)) (ch : (Nat → Int64)) (la : (Nat → Int64)) (be : Int64) (se : (Nat → Int64)) (ta : (Nat → Int32)) (fs : Int32) : Option (Int32 × (Nat → Int64) × (Nat → Int64)) :=
  (if s1 < 0 ∨ 49 ≤ Int32.toNatClampNeg s1 then none else (b_X7_works_381 k x2 x3 x4 x5 x7 x8 th tc mr pd mp ch (vp_updL la (Int32.toNatClampNeg s1) s0) be se ta fs))
noncomputable def b_X7_works_277 (k : (Int32 × (Nat → Int64) × (Nat → Int64)) → Option (Int32 × (Nat → Int64) × (Nat → Int64))) (x2 : Int32) (x3 : Int32) (x4 : Int32) (x5 : Int64) (x7 : Int32) (x8 : Int32) (s0 : Int32) (s1 : Int64) (s2 : Int64) (s3 : Int32) (th : Int32) (tc : Int64) (mr : (Nat → Int32)) (pd : Int32) (mp : (Nat → Int32)) (ch : (Nat → Int64)) (la : (Nat → Int64)) (be : Int64) (se : (Nat → Int64)) (ta : (Nat → Int32)) (fs : Int32) : Option (Int32 × (Nat → Int64) × (Nat → Int64)) :=
  (b_X7_works_284 k x2 x3 x4 x5 x7 x8 ((s2 + (s1 * (Int32.toInt64 s0))) * (100000000 : Int64)) s3 th tc mr pd mp ch la be se ta fs)
noncomputable def b_X7_works_235 (k : (Int32 × (Nat → Int64) × (Nat → Int64)) → Option (Int32 × (Nat → Int64) × (Nat → Int64))) (x2 : Int32) (x3 : Int32) (x4 : Int32) (x5 : Int64) (x7 : Int32) (x8 : Int32) (x9 : Int32) (x10 : Int32) (s0 : Int64) (s1 : Int32) (th : Int32) (tc : Int64) (mr : (Nat → Int32)) (pd : Int32) (mp : (Nat → Int32)) (ch : (Nat → Int64)) (la : (Nat → Int64)) (be : Int64) (se : (Nat → Int64)) (ta : (Nat → Int32)) (fs : Int32) : Option (Int32 × (Nat → Int64) × (Nat → Int64)) :=
  (if s1 < 0 ∨ 49 ≤ Int32.toNatClampNeg s1 then none else (if x8 = x9 then (b_X7_works_284 k x2 x3 x4 x5 x7 x8 (200000000000 : Int64) x10 th tc mr pd mp (vp_updL ch (Int32.toNatClampNeg s1) s0) la be se ta fs) else (if x8 ≤ x9 then (b_X7_works_277 k x2 x3 x4 x5 x7 x8 x3 (200 : Int64) ((10 : Int64) * x5) x10 th tc mr pd mp (vp_updL ch (Int32.toNatClampNeg s1) s0) la be se ta fs) else (b_X7_works_277 k x2 x3 x4 x5 x7 x8 x4 (200 : Int64) ((10 : Int64) * x5) x10 th tc mr pd mp (vp_updL ch (Int32.toNatClampNeg s1) s0) la be se ta fs))))
noncomputable def b_X7_works_136 (k : (Int32 × (Nat → Int64) × (Nat → Int64)) → Option (Int32 × (Nat → Int64) × (Nat → Int64))) (x2 : Int32) (x3 : Int32) (x4 : Int32) (x5 : Int64) (x7 : Int32) (x8 : Int32) (x10 : Int32) (s0 : Int64) (s1 : Int32) (th : Int32) (tc : Int64) (mr : (Nat → Int32)) (pd : Int32) (mp : (Nat → Int32)) (ch : (Nat → Int64)) (la : (Nat → Int64)) (be : Int64) (se : (Nat → Int64)) (ta : (Nat → Int32)) (fs : Int32) : Option (Int32 × (Nat → Int64) × (Nat → Int64)) :=
  (if s1 < 0 ∨ 49 ≤ Int32.toNatClampNeg s1 then none else (if x10 < 0 ∨ 49 ≤ Int32.toNatClampNeg x10 then none else (b_X7_works_381 k x2 x3 x4 x5 x7 x8 th tc mr pd mp (vp_updL ch (Int32.toNatClampNeg s1) s0) (vp_updL la (Int32.toNatClampNeg x10) (0 : Int64)) be se ta fs)))
noncomputable def b_X7_works_57 (k : (Int32 × (Nat → Int64) × (Nat → Int64)) → Option (Int32 × (Nat → Int64) × (Nat → Int64))) (x2 : Int32) (x3 : Int32) (x4 : Int32) (x5 : Int64) (x7 : Int32) (x8 : Int32) (th : Int32) (tc : Int64) (mr : (Nat → Int32)) (pd : Int32) (mp : (Nat → Int32)) (ch : (Nat → Int64)) (la : (Nat → Int64)) (be : Int64) (se : (Nat → Int64)) (ta : (Nat → Int32)) (fs : Int32) : Option (Int32 × (Nat → Int64) × (Nat → Int64)) :=
  (if (x2 + 1) < x8 then (some (x8, ch, la)) else (q_b1 (f_X7_in (x7 - x8) 0 (x2 + 1)) (fun r16 => (if r16 = 0 then (b_X7_works_381 k x2 x3 x4 x5 x7 x8 th tc mr pd mp ch la be se ta fs) else (q_b1 (f_X7_wonOf (mr 6) x8 (x7 - x8) th tc mr pd mp ch la be se ta fs) (fun r19 => (if r19 ≤ 0 then (if x8 < (x2 - 1) then (b_X7_works_288 k x2 x3 x4 x5 x7 x8 (x7 - x8) ((7 * x8) + (x7 - x8)) th tc mr pd mp ch la be se ta fs) else (if (x7 - x8) < (x2 - 1) then (b_X7_works_288 k x2 x3 x4 x5 x7 x8 (x7 - x8) ((7 * x8) + (x7 - x8)) th tc mr pd mp ch la be se ta fs) else (if (mr 6) = 0 then (if x8 = (x7 - x8) then (b_X7_works_235 k x2 x3 x4 x5 x7 x8 (x7 - x8) ((7 * x8) + (x7 - x8)) ((Int32.toInt64 (x3 * x3)) * (1000000000 : Int64)) ((7 * x8) + (x7 - x8)) th tc mr pd mp ch la be se ta fs) else (if x8 ≤ (x7 - x8) then (b_X7_works_235 k x2 x3 x4 x5 x7 x8 (x7 - x8) ((7 * x8) + (x7 - x8)) ((Int32.toInt64 ((x3 * x3) * x3)) * (100000000 : Int64)) ((7 * x8) + (x7 - x8)) th tc mr pd mp ch la be se ta fs) else (b_X7_works_235 k x2 x3 x4 x5 x7 x8 (x7 - x8) ((7 * x8) + (x7 - x8)) ((((Int32.toInt64 x3) * x5) + (Int32.toInt64 ((x4 * x3) * x3))) * (100000000 : Int64)) ((7 * x8) + (x7 - x8)) th tc mr pd mp ch la be se ta fs))) else (b_X7_works_288 k x2 x3 x4 x5 x7 x8 (x7 - x8) ((7 * x8) + (x7 - x8)) th tc mr pd mp ch la be se ta fs)))) else (if r19 = 1 then (b_X7_works_136 k x2 x3 x4 x5 x7 x8 ((7 * x8) + (x7 - x8)) be ((7 * x8) + (x7 - x8)) th tc mr pd mp ch la be se ta fs) else (b_X7_works_136 k x2 x3 x4 x5 x7 x8 ((7 * x8) + (x7 - x8)) (0 : Int64) ((7 * x8) + (x7 - x8)) th tc mr pd mp ch la be se ta fs)))))))))
noncomputable def l_X7_works_57 (x2 : Int32) (x3 : Int32) (x4 : Int32) (x5 : Int64) (x7 : Int32) (th : Int32) (tc : Int64) (mr : (Nat → Int32)) (pd : Int32) (mp : (Nat → Int32)) (be : Int64) (se : (Nat → Int64)) (ta : (Nat → Int32)) (fs : Int32) (n : Nat) : (Int32 × (Nat → Int64) × (Nat → Int64)) → Option (Int32 × (Nat → Int64) × (Nat → Int64)) :=
  Nat.rec (fun _ => none) (fun _ k q => b_X7_works_57 k x2 x3 x4 x5 x7 q.1 th tc mr pd mp q.2.1 q.2.2 be se ta fs) n
noncomputable def b_X7_works_49 (k : (Int32 × (Nat → Int64) × (Nat → Int64)) → Option (Int32 × (Nat → Int64) × (Nat → Int64))) (x2 : Int32) (x3 : Int32) (x4 : Int32) (x5 : Int64) (x7 : Int32) (th : Int32) (tc : Int64) (mr : (Nat → Int32)) (pd : Int32) (mp : (Nat → Int32)) (ch : (Nat → Int64)) (la : (Nat → Int64)) (be : Int64) (se : (Nat → Int64)) (ta : (Nat → Int32)) (fs : Int32) : Option (Int32 × (Nat → Int64) × (Nat → Int64)) :=
  (if x7 < 0 then (some (x7, ch, la)) else (q_b3 (l_X7_works_57 x2 x3 x4 x5 x7 th tc mr pd mp be se ta fs 1000 (0, ch, la)) (fun y29 y30 y31 => (k (x7 + (-1), y30, y31)))))
noncomputable def l_X7_works_49 (x2 : Int32) (x3 : Int32) (x4 : Int32) (x5 : Int64) (th : Int32) (tc : Int64) (mr : (Nat → Int32)) (pd : Int32) (mp : (Nat → Int32)) (be : Int64) (se : (Nat → Int64)) (ta : (Nat → Int32)) (fs : Int32) (n : Nat) : (Int32 × (Nat → Int64) × (Nat → Int64)) → Option (Int32 × (Nat → Int64) × (Nat → Int64)) :=
  Nat.rec (fun _ => none) (fun _ k q => b_X7_works_49 k x2 x3 x4 x5 q.1 th tc mr pd mp q.2.1 q.2.2 be se ta fs) n
noncomputable def f_X7_works (x1 : Int32) (th : Int32) (tc : Int64) (mr : (Nat → Int32)) (pd : Int32) (mp : (Nat → Int32)) (ch : (Nat → Int64)) (la : (Nat → Int64)) (be : Int64) (se : (Nat → Int64)) (ta : (Nat → Int32)) (fs : Int32) : Option ((Nat → Int64) × (Nat → Int64) × Int64) :=
  (if x1 < 0 ∨ 7 ≤ Int32.toNatClampNeg x1 then none else (q_b3 (l_X7_works_49 (mr 2) (mr (Int32.toNatClampNeg x1)) (10 - (mr (Int32.toNatClampNeg x1))) (Int32.toInt64 (((mr (Int32.toNatClampNeg x1)) * (mr (Int32.toNatClampNeg x1))) + ((10 - (mr (Int32.toNatClampNeg x1))) * (10 - (mr (Int32.toNatClampNeg x1)))))) th tc mr pd mp ((1000000000 : Int64) * (Int32.toInt64 (((mr (Int32.toNatClampNeg x1)) * (mr (Int32.toNatClampNeg x1))) + ((10 - (mr (Int32.toNatClampNeg x1))) * (10 - (mr (Int32.toNatClampNeg x1))))))) se ta fs 1000 ((2 * (mr 2)) + 2, ch, la)) (fun y34 y35 y36 => (some (y35, y36, (1000000000 : Int64) * (Int32.toInt64 (((mr (Int32.toNatClampNeg x1)) * (mr (Int32.toNatClampNeg x1))) + ((10 - (mr (Int32.toNatClampNeg x1))) * (10 - (mr (Int32.toNatClampNeg x1)))))))))))
set_option maxHeartbeats 4000000 in
set_option maxRecDepth 100000 in
theorem B_X7_works_381 {p : Program} {l : Launch} {e : Env} {s : State} {m : MethodId} {args : Array Value} {below : List Frame} {meth : Method} {c : Code} {A : Nat → Prop} {dC : Nat → ClassId} {dI : Nat → Nat → Nat} {cI cJ cZ : ClassId} {bM b0 b1 b2 b3 b4 b5 : Nat} (C0 : q_C p s m args meth c (dC, dI) (q_T cI cJ cZ) A RX7 wsX7_works cX7_works 12 none) {Q : State → Prop} {k : (Int32 × (Nat → Int64) × (Nat → Int64)) → Option (Int32 × (Nat → Int64) × (Nat → Int64))} {x2 : Int32} {x3 : Int32} {x4 : Int32} {x5 : Int64} {x7 : Int32} {x8 : Int32} {th : Int32} {tc : Int64} {mr : (Nat → Int32)} {pd : Int32} {mp : (Nat → Int32)} {ch : (Nat → Int64)} {la : (Nat → Int64)} {be : Int64} {se : (Nat → Int64)} {ta : (Nat → Int32)} {fs : Int32} {R : Int32 × (Nat → Int64) × (Nat → Int64)} (hk : ∀ (v0 : Int32) (v1 : (Nat → Int64)) (v2 : (Nat → Int64)), k (v0, v1, v2) = some R → ∀ (H : Heap) (locs : List Loc) (ls : Array Slot), va_P (dC, dI) vwCl [(bM, .inr (7, [.int th, .long tc, .ref b0, .int pd, .ref b1, .ref b2, .ref b3, .long be, .ref b4, .ref b5, .int fs])), (b0, .inl (cI, 7, .inl mr)), (b1, .inl (cI, 400, .inl mp)), (b2, .inl (cJ, 49, .inr (.inl v1))), (b3, .inl (cJ, 49, .inr (.inl v2))), (b4, .inl (cJ, 128, .inr (.inl se))), (b5, .inl (cI, 13, .inl ta))] H → va_D A [(bM, .inr (7, [.int th, .long tc, .ref b0, .int pd, .ref b1, .ref b2, .ref b3, .long be, .ref b4, .ref b5, .int fs])), (b0, .inl (cI, 7, .inl mr)), (b1, .inl (cI, 400, .inl mp)), (b2, .inl (cJ, 49, .inr (.inl v1))), (b3, .inl (cJ, 49, .inr (.inl v2))), (b4, .inl (cJ, 128, .inr (.inl se))), (b5, .inl (cI, 13, .inl ta))] → va_S A s.heap H locs → lv_has ls 12 [(0, .ref bM), (2, .int x2), (3, .int x3), (4, .int x4), (5, .long x5), (7, .int x7), (8, .int v0)] → W p l e rmX7_works s m args below meth c H locs 0 0 Q (F0 m 57 ls [])) (hq : ∀ (H : Heap) (locs : List Loc) (ls : Array Slot), va_P (dC, dI) vwCl [(bM, .inr (7, [.int th, .long tc, .ref b0, .int pd, .ref b1, .ref b2, .ref b3, .long be, .ref b4, .ref b5, .int fs])), (b0, .inl (cI, 7, .inl mr)), (b1, .inl (cI, 400, .inl mp)), (b2, .inl (cJ, 49, .inr (.inl R.2.1))), (b3, .inl (cJ, 49, .inr (.inl R.2.2))), (b4, .inl (cJ, 128, .inr (.inl se))), (b5, .inl (cI, 13, .inl ta))] H → va_D A [(bM, .inr (7, [.int th, .long tc, .ref b0, .int pd, .ref b1, .ref b2, .ref b3, .long be, .ref b4, .ref b5, .int fs])), (b0, .inl (cI, 7, .inl mr)), (b1, .inl (cI, 400, .inl mp)), (b2, .inl (cJ, 49, .inr (.inl R.2.1))), (b3, .inl (cJ, 49, .inr (.inl R.2.2))), (b4, .inl (cJ, 128, .inr (.inl se))), (b5, .inl (cI, 13, .inl ta))] → va_S A s.heap H locs → lv_has ls 12 [(0, .ref bM), (2, .int x2), (3, .int x3), (4, .int x4), (5, .long x5), (7, .int x7)] → W p l e rmX7_works s m args below meth c H locs 0 0 Q (F0 m 387 ls [])) (hf : b_X7_works_381 k x2 x3 x4 x5 x7 x8 th tc mr pd mp ch la be se ta fs = some R) : ∀ (H : Heap) (locs : List Loc) (ls : Array Slot), va_P (dC, dI) vwCl [(bM, .inr (7, [.int th, .long tc, .ref b0, .int pd, .ref b1, .ref b2, .ref b3, .long be, .ref b4, .ref b5, .int fs])), (b0, .inl (cI, 7, .inl mr)), (b1, .inl (cI, 400, .inl mp)), (b2, .inl (cJ, 49, .inr (.inl ch))), (b3, .inl (cJ, 49, .inr (.inl la))), (b4, .inl (cJ, 128, .inr (.inl se))), (b5, .inl (cI, 13, .inl ta))] H → va_D A [(bM, .inr (7, [.int th, .long tc, .ref b0, .int pd, .ref b1, .ref b2, .ref b3, .long be, .ref b4, .ref b5, .int fs])), (b0, .inl (cI, 7, .inl mr)), (b1, .inl (cI, 400, .inl mp)), (b2, .inl (cJ, 49, .inr (.inl ch))), (b3, .inl (cJ, 49, .inr (.inl la))), (b4, .inl (cJ, 128, .inr (.inl se))), (b5, .inl (cI, 13, .inl ta))] → va_S A s.heap H locs → lv_has ls 12 [(0, .ref bM), (2, .int x2), (3, .int x3), (4, .int x4), (5, .long x5), (7, .int x7), (8, .int x8)] → W p l e rmX7_works s m args below meth c H locs 0 0 Q (F0 m 381 ls []) := by
  obtain ⟨hx, hb, hml, hown, hts, hrt, hlk, hK, hX, hA⟩ := id C0
  intro H locs ls hP hD hS hl
  unfold b_X7_works_381 at hf
  refine lv_iinc (v := x8 + 1) (lv' := [(8, .int (x8 + 1)), (0, .ref bM), (2, .int x2), (3, .int x3), (4, .int x4), (5, .long x5), (7, .int x7)]) hx hb dX7_works_381 hl (k := 6) rfl rfl (by decide) rfl (fun ls hl => ?_)
  refine lv_goto (tgt := 57) hx hb dX7_works_384 (by decide) ?_
  exact hk _ _ _ hf H locs ls hP hD hS (lv_sub hl [1, 2, 3, 4, 5, 6, 0] rfl)
set_option maxHeartbeats 4000000 in
set_option maxRecDepth 100000 in
theorem B_X7_works_288 {p : Program} {l : Launch} {e : Env} {s : State} {m : MethodId} {args : Array Value} {below : List Frame} {meth : Method} {c : Code} {A : Nat → Prop} {dC : Nat → ClassId} {dI : Nat → Nat → Nat} {cI cJ cZ : ClassId} {bM b0 b1 b2 b3 b4 b5 : Nat} (C0 : q_C p s m args meth c (dC, dI) (q_T cI cJ cZ) A RX7 wsX7_works cX7_works 12 none) {Q : State → Prop} {k : (Int32 × (Nat → Int64) × (Nat → Int64)) → Option (Int32 × (Nat → Int64) × (Nat → Int64))} {x2 : Int32} {x3 : Int32} {x4 : Int32} {x5 : Int64} {x7 : Int32} {x8 : Int32} {x9 : Int32} {x10 : Int32} {th : Int32} {tc : Int64} {mr : (Nat → Int32)} {pd : Int32} {mp : (Nat → Int32)} {ch : (Nat → Int64)} {la : (Nat → Int64)} {be : Int64} {se : (Nat → Int64)} {ta : (Nat → Int32)} {fs : Int32} {R : Int32 × (Nat → Int64) × (Nat → Int64)} (hk : ∀ (v0 : Int32) (v1 : (Nat → Int64)) (v2 : (Nat → Int64)), k (v0, v1, v2) = some R → ∀ (H : Heap) (locs : List Loc) (ls : Array Slot), va_P (dC, dI) vwCl [(bM, .inr (7, [.int th, .long tc, .ref b0, .int pd, .ref b1, .ref b2, .ref b3, .long be, .ref b4, .ref b5, .int fs])), (b0, .inl (cI, 7, .inl mr)), (b1, .inl (cI, 400, .inl mp)), (b2, .inl (cJ, 49, .inr (.inl v1))), (b3, .inl (cJ, 49, .inr (.inl v2))), (b4, .inl (cJ, 128, .inr (.inl se))), (b5, .inl (cI, 13, .inl ta))] H → va_D A [(bM, .inr (7, [.int th, .long tc, .ref b0, .int pd, .ref b1, .ref b2, .ref b3, .long be, .ref b4, .ref b5, .int fs])), (b0, .inl (cI, 7, .inl mr)), (b1, .inl (cI, 400, .inl mp)), (b2, .inl (cJ, 49, .inr (.inl v1))), (b3, .inl (cJ, 49, .inr (.inl v2))), (b4, .inl (cJ, 128, .inr (.inl se))), (b5, .inl (cI, 13, .inl ta))] → va_S A s.heap H locs → lv_has ls 12 [(0, .ref bM), (2, .int x2), (3, .int x3), (4, .int x4), (5, .long x5), (7, .int x7), (8, .int v0)] → W p l e rmX7_works s m args below meth c H locs 0 0 Q (F0 m 57 ls [])) (hq : ∀ (H : Heap) (locs : List Loc) (ls : Array Slot), va_P (dC, dI) vwCl [(bM, .inr (7, [.int th, .long tc, .ref b0, .int pd, .ref b1, .ref b2, .ref b3, .long be, .ref b4, .ref b5, .int fs])), (b0, .inl (cI, 7, .inl mr)), (b1, .inl (cI, 400, .inl mp)), (b2, .inl (cJ, 49, .inr (.inl R.2.1))), (b3, .inl (cJ, 49, .inr (.inl R.2.2))), (b4, .inl (cJ, 128, .inr (.inl se))), (b5, .inl (cI, 13, .inl ta))] H → va_D A [(bM, .inr (7, [.int th, .long tc, .ref b0, .int pd, .ref b1, .ref b2, .ref b3, .long be, .ref b4, .ref b5, .int fs])), (b0, .inl (cI, 7, .inl mr)), (b1, .inl (cI, 400, .inl mp)), (b2, .inl (cJ, 49, .inr (.inl R.2.1))), (b3, .inl (cJ, 49, .inr (.inl R.2.2))), (b4, .inl (cJ, 128, .inr (.inl se))), (b5, .inl (cI, 13, .inl ta))] → va_S A s.heap H locs → lv_has ls 12 [(0, .ref bM), (2, .int x2), (3, .int x3), (4, .int x4), (5, .long x5), (7, .int x7)] → W p l e rmX7_works s m args below meth c H locs 0 0 Q (F0 m 387 ls [])) (hf : b_X7_works_288 k x2 x3 x4 x5 x7 x8 x9 x10 th tc mr pd mp ch la be se ta fs = some R) : ∀ (H : Heap) (locs : List Loc) (ls : Array Slot), va_P (dC, dI) vwCl [(bM, .inr (7, [.int th, .long tc, .ref b0, .int pd, .ref b1, .ref b2, .ref b3, .long be, .ref b4, .ref b5, .int fs])), (b0, .inl (cI, 7, .inl mr)), (b1, .inl (cI, 400, .inl mp)), (b2, .inl (cJ, 49, .inr (.inl ch))), (b3, .inl (cJ, 49, .inr (.inl la))), (b4, .inl (cJ, 128, .inr (.inl se))), (b5, .inl (cI, 13, .inl ta))] H → va_D A [(bM, .inr (7, [.int th, .long tc, .ref b0, .int pd, .ref b1, .ref b2, .ref b3, .long be, .ref b4, .ref b5, .int fs])), (b0, .inl (cI, 7, .inl mr)), (b1, .inl (cI, 400, .inl mp)), (b2, .inl (cJ, 49, .inr (.inl ch))), (b3, .inl (cJ, 49, .inr (.inl la))), (b4, .inl (cJ, 128, .inr (.inl se))), (b5, .inl (cI, 13, .inl ta))] → va_S A s.heap H locs → lv_has ls 12 [(0, .ref bM), (2, .int x2), (3, .int x3), (4, .int x4), (5, .long x5), (7, .int x7), (8, .int x8), (9, .int x9), (10, .int x10)] → W p l e rmX7_works s m args below meth c H locs 0 0 Q (F0 m 288 ls []) := by
  obtain ⟨hx, hb, hml, hown, hts, hrt, hlk, hK, hX, hA⟩ := id C0
  intro H locs ls hP hD hS hl
  unfold b_X7_works_288 at hf
  refine lv_iload hx hb dX7_works_288 (lv_at hl 6 rfl) ?_
  refine lv_iload_n hx hb dX7_works_290 rfl (lv_at hl 1 rfl) ?_
  refine lv_icmp_gt (tgt := 381) hx hb dX7_works_291 (by decide) (fun hc1 => ?_) (fun hc1 => ?_)
  · have hf := q_if hf hc1
    exact B_X7_works_381 C0 hk hq hf H locs ls hP hD hS (lv_sub hl [0, 1, 2, 3, 4, 5, 6] rfl)
  · have hf := q_nif hf hc1
    refine lv_iload hx hb dX7_works_294 (lv_at hl 7 rfl) ?_
    refine lv_iload_n hx hb dX7_works_296 rfl (lv_at hl 1 rfl) ?_
    refine lv_icmp_gt (tgt := 381) hx hb dX7_works_297 (by decide) (fun hc2 => ?_) (fun hc2 => ?_)
    · have hf := q_if hf hc2
      exact B_X7_works_381 C0 hk hq hf H locs ls hP hD hS (lv_sub hl [0, 1, 2, 3, 4, 5, 6] rfl)
    · have hf := q_nif hf hc2
      refine lv_aload_n hx hb dX7_works_300 rfl (lv_at hl 0 rfl) ?_
      refine q_get (TT := TX7) C0 in_X7_works_X7 5 m_X7_works_f16 hP 0 rfl rfl (by decide) rfl rfl dX7_works_301 ?_
      refine lv_iload hx hb dX7_works_304 (lv_at hl 8 rfl) ?_
      refine lv_iload_n hx hb dX7_works_306 rfl (lv_at hl 2 rfl) ?_
      refine lv_i2l (v := Int32.toInt64 x3) hx hb dX7_works_307 rfl ?_
      refine lv_aload_n hx hb dX7_works_308 rfl (lv_at hl 0 rfl) ?_
      refine q_get (TT := TX7) C0 in_X7_works_X7 5 m_X7_works_f16 hP 0 rfl rfl (by decide) rfl rfl dX7_works_309 ?_
      refine lv_iload hx hb dX7_works_312 (lv_at hl 8 rfl) ?_
      refine lv_bipush (v := 7) hx hb dX7_works_314 (by decide) ?_
      refine lv_iadd hx hb dX7_works_316 ?_
      obtain ⟨hin3, hf⟩ := q_gd hf
      refine q_lald (v := ch (Int32.toNatClampNeg (x10 + 7))) C0 hP 3 1 rfl rfl hin3 rfl dX7_works_317 ?_
      refine lv_lmul hx hb dX7_works_318 ?_
      refine lv_iload hx hb dX7_works_319 (lv_at hl 3 rfl) ?_
      refine lv_i2l (v := Int32.toInt64 x4) hx hb dX7_works_321 rfl ?_
      refine lv_aload_n hx hb dX7_works_322 rfl (lv_at hl 0 rfl) ?_
      refine q_get (TT := TX7) C0 in_X7_works_X7 5 m_X7_works_f16 hP 0 rfl rfl (by decide) rfl rfl dX7_works_323 ?_
      refine lv_iload hx hb dX7_works_326 (lv_at hl 8 rfl) ?_
      refine lv_iconst (v := 1) hx hb dX7_works_328 (by decide) ?_
      refine lv_iadd hx hb dX7_works_329 ?_
      obtain ⟨hin4, hf⟩ := q_gd hf
      refine q_lald (v := ch (Int32.toNatClampNeg (x10 + 1))) C0 hP 3 1 rfl rfl hin4 rfl dX7_works_330 ?_
      refine lv_lmul hx hb dX7_works_331 ?_
      refine lv_ladd hx hb dX7_works_332 ?_
      refine lv_ldc2 hx hb hown (hts _ m_X7_works_k68) dX7_works_333 ?_
      refine lv_ldiv hx hb dX7_works_336 (by decide) ?_
      obtain ⟨hin5, hf⟩ := q_gd hf
      refine q_last (g := vp_updL ch (Int32.toNatClampNeg x10) ((((Int32.toInt64 x3) * (ch (Int32.toNatClampNeg (x10 + 7)))) + ((Int32.toInt64 x4) * (ch (Int32.toNatClampNeg (x10 + 1))))) / (10 : Int64))) C0 hP hD hS 3 1 rfl rfl hin5 rfl dX7_works_337 (fun H locs hP hD hS => ?_)
      have hP : va_P (dC, dI) vwCl [(bM, .inr (7, [.int th, .long tc, .ref b0, .int pd, .ref b1, .ref b2, .ref b3, .long be, .ref b4, .ref b5, .int fs])), (b0, .inl (cI, 7, .inl mr)), (b1, .inl (cI, 400, .inl mp)), (b2, .inl (cJ, 49, .inr (.inl (vp_updL ch (Int32.toNatClampNeg x10) ((((Int32.toInt64 x3) * (ch (Int32.toNatClampNeg (x10 + 7)))) + ((Int32.toInt64 x4) * (ch (Int32.toNatClampNeg (x10 + 1))))) / (10 : Int64)))))), (b3, .inl (cJ, 49, .inr (.inl la))), (b4, .inl (cJ, 128, .inr (.inl se))), (b5, .inl (cI, 13, .inl ta))] H := hP
      have hD : va_D A [(bM, .inr (7, [.int th, .long tc, .ref b0, .int pd, .ref b1, .ref b2, .ref b3, .long be, .ref b4, .ref b5, .int fs])), (b0, .inl (cI, 7, .inl mr)), (b1, .inl (cI, 400, .inl mp)), (b2, .inl (cJ, 49, .inr (.inl (vp_updL ch (Int32.toNatClampNeg x10) ((((Int32.toInt64 x3) * (ch (Int32.toNatClampNeg (x10 + 7)))) + ((Int32.toInt64 x4) * (ch (Int32.toNatClampNeg (x10 + 1))))) / (10 : Int64)))))), (b3, .inl (cJ, 49, .inr (.inl la))), (b4, .inl (cJ, 128, .inr (.inl se))), (b5, .inl (cI, 13, .inl ta))] := hD
      refine lv_aload_n hx hb dX7_works_338 rfl (lv_at hl 0 rfl) ?_
      refine q_get (TT := TX7) C0 in_X7_works_X7 6 m_X7_works_f20 hP 0 rfl rfl (by decide) rfl rfl dX7_works_339 ?_
      refine lv_iload hx hb dX7_works_342 (lv_at hl 8 rfl) ?_
      refine lv_aload_n hx hb dX7_works_344 rfl (lv_at hl 0 rfl) ?_
      refine q_get (TT := TX7) C0 in_X7_works_X7 7 m_X7_works_f61 hP 0 rfl rfl (by decide) rfl rfl dX7_works_345 ?_
      refine lv_iload_n hx hb dX7_works_348 rfl (lv_at hl 2 rfl) ?_
      refine lv_i2l (v := Int32.toInt64 x3) hx hb dX7_works_349 rfl ?_
      refine lv_aload_n hx hb dX7_works_350 rfl (lv_at hl 0 rfl) ?_
      refine q_get (TT := TX7) C0 in_X7_works_X7 6 m_X7_works_f20 hP 0 rfl rfl (by decide) rfl rfl dX7_works_351 ?_
      refine lv_iload hx hb dX7_works_354 (lv_at hl 8 rfl) ?_
      refine lv_bipush (v := 7) hx hb dX7_works_356 (by decide) ?_
      refine lv_iadd hx hb dX7_works_358 ?_
      obtain ⟨hin6, hf⟩ := q_gd hf
      refine q_lald (v := la (Int32.toNatClampNeg (x10 + 7))) C0 hP 4 1 rfl rfl hin6 rfl dX7_works_359 ?_
      refine lv_lmul hx hb dX7_works_360 ?_
      refine lv_iload hx hb dX7_works_361 (lv_at hl 3 rfl) ?_
      refine lv_i2l (v := Int32.toInt64 x4) hx hb dX7_works_363 rfl ?_
      refine lv_aload_n hx hb dX7_works_364 rfl (lv_at hl 0 rfl) ?_
      refine q_get (TT := TX7) C0 in_X7_works_X7 6 m_X7_works_f20 hP 0 rfl rfl (by decide) rfl rfl dX7_works_365 ?_
      refine lv_iload hx hb dX7_works_368 (lv_at hl 8 rfl) ?_
      refine lv_iconst (v := 1) hx hb dX7_works_370 (by decide) ?_
      refine lv_iadd hx hb dX7_works_371 ?_
      obtain ⟨hin7, hf⟩ := q_gd hf
      refine q_lald (v := la (Int32.toNatClampNeg (x10 + 1))) C0 hP 4 1 rfl rfl hin7 rfl dX7_works_372 ?_
      refine lv_lmul hx hb dX7_works_373 ?_
      refine lv_ladd hx hb dX7_works_374 ?_
      refine lv_ldc2 hx hb hown (hts _ m_X7_works_k68) dX7_works_375 ?_
      refine lv_ldiv hx hb dX7_works_378 (by decide) ?_
      refine lv_ladd hx hb dX7_works_379 ?_
      obtain ⟨hin8, hf⟩ := q_gd hf
      refine q_last (g := vp_updL la (Int32.toNatClampNeg x10) (be + ((((Int32.toInt64 x3) * (la (Int32.toNatClampNeg (x10 + 7)))) + ((Int32.toInt64 x4) * (la (Int32.toNatClampNeg (x10 + 1))))) / (10 : Int64)))) C0 hP hD hS 4 1 rfl rfl hin8 rfl dX7_works_380 (fun H locs hP hD hS => ?_)
      have hP : va_P (dC, dI) vwCl [(bM, .inr (7, [.int th, .long tc, .ref b0, .int pd, .ref b1, .ref b2, .ref b3, .long be, .ref b4, .ref b5, .int fs])), (b0, .inl (cI, 7, .inl mr)), (b1, .inl (cI, 400, .inl mp)), (b2, .inl (cJ, 49, .inr (.inl (vp_updL ch (Int32.toNatClampNeg x10) ((((Int32.toInt64 x3) * (ch (Int32.toNatClampNeg (x10 + 7)))) + ((Int32.toInt64 x4) * (ch (Int32.toNatClampNeg (x10 + 1))))) / (10 : Int64)))))), (b3, .inl (cJ, 49, .inr (.inl (vp_updL la (Int32.toNatClampNeg x10) (be + ((((Int32.toInt64 x3) * (la (Int32.toNatClampNeg (x10 + 7)))) + ((Int32.toInt64 x4) * (la (Int32.toNatClampNeg (x10 + 1))))) / (10 : Int64))))))), (b4, .inl (cJ, 128, .inr (.inl se))), (b5, .inl (cI, 13, .inl ta))] H := hP
      have hD : va_D A [(bM, .inr (7, [.int th, .long tc, .ref b0, .int pd, .ref b1, .ref b2, .ref b3, .long be, .ref b4, .ref b5, .int fs])), (b0, .inl (cI, 7, .inl mr)), (b1, .inl (cI, 400, .inl mp)), (b2, .inl (cJ, 49, .inr (.inl (vp_updL ch (Int32.toNatClampNeg x10) ((((Int32.toInt64 x3) * (ch (Int32.toNatClampNeg (x10 + 7)))) + ((Int32.toInt64 x4) * (ch (Int32.toNatClampNeg (x10 + 1))))) / (10 : Int64)))))), (b3, .inl (cJ, 49, .inr (.inl (vp_updL la (Int32.toNatClampNeg x10) (be + ((((Int32.toInt64 x3) * (la (Int32.toNatClampNeg (x10 + 7)))) + ((Int32.toInt64 x4) * (la (Int32.toNatClampNeg (x10 + 1))))) / (10 : Int64))))))), (b4, .inl (cJ, 128, .inr (.inl se))), (b5, .inl (cI, 13, .inl ta))] := hD
      exact B_X7_works_381 C0 hk hq hf H locs ls hP hD hS (lv_sub hl [0, 1, 2, 3, 4, 5, 6] rfl)
set_option maxHeartbeats 4000000 in
set_option maxRecDepth 100000 in
theorem B_X7_works_284 {p : Program} {l : Launch} {e : Env} {s : State} {m : MethodId} {args : Array Value} {below : List Frame} {meth : Method} {c : Code} {A : Nat → Prop} {dC : Nat → ClassId} {dI : Nat → Nat → Nat} {cI cJ cZ : ClassId} {bM b0 b1 b2 b3 b4 b5 : Nat} (C0 : q_C p s m args meth c (dC, dI) (q_T cI cJ cZ) A RX7 wsX7_works cX7_works 12 none) {Q : State → Prop} {k : (Int32 × (Nat → Int64) × (Nat → Int64)) → Option (Int32 × (Nat → Int64) × (Nat → Int64))} {x2 : Int32} {x3 : Int32} {x4 : Int32} {x5 : Int64} {x7 : Int32} {x8 : Int32} {s0 : Int64} {s1 : Int32} {th : Int32} {tc : Int64} {mr : (Nat → Int32)} {pd : Int32} {mp : (Nat → Int32)} {ch : (Nat → Int64)} {la : (Nat → Int64)} {be : Int64} {se : (Nat → Int64)} {ta : (Nat → Int32)} {fs : Int32} {R : Int32 × (Nat → Int64) × (Nat → Int64)} (hk : ∀ (v0 : Int32) (v1 : (Nat → Int64)) (v2 : (Nat → Int64)), k (v0, v1, v2) = some R → ∀ (H : Heap) (locs : List Loc) (ls : Array Slot), va_P (dC, dI) vwCl [(bM, .inr (7, [.int th, .long tc, .ref b0, .int pd, .ref b1, .ref b2, .ref b3, .long be, .ref b4, .ref b5, .int fs])), (b0, .inl (cI, 7, .inl mr)), (b1, .inl (cI, 400, .inl mp)), (b2, .inl (cJ, 49, .inr (.inl v1))), (b3, .inl (cJ, 49, .inr (.inl v2))), (b4, .inl (cJ, 128, .inr (.inl se))), (b5, .inl (cI, 13, .inl ta))] H → va_D A [(bM, .inr (7, [.int th, .long tc, .ref b0, .int pd, .ref b1, .ref b2, .ref b3, .long be, .ref b4, .ref b5, .int fs])), (b0, .inl (cI, 7, .inl mr)), (b1, .inl (cI, 400, .inl mp)), (b2, .inl (cJ, 49, .inr (.inl v1))), (b3, .inl (cJ, 49, .inr (.inl v2))), (b4, .inl (cJ, 128, .inr (.inl se))), (b5, .inl (cI, 13, .inl ta))] → va_S A s.heap H locs → lv_has ls 12 [(0, .ref bM), (2, .int x2), (3, .int x3), (4, .int x4), (5, .long x5), (7, .int x7), (8, .int v0)] → W p l e rmX7_works s m args below meth c H locs 0 0 Q (F0 m 57 ls [])) (hq : ∀ (H : Heap) (locs : List Loc) (ls : Array Slot), va_P (dC, dI) vwCl [(bM, .inr (7, [.int th, .long tc, .ref b0, .int pd, .ref b1, .ref b2, .ref b3, .long be, .ref b4, .ref b5, .int fs])), (b0, .inl (cI, 7, .inl mr)), (b1, .inl (cI, 400, .inl mp)), (b2, .inl (cJ, 49, .inr (.inl R.2.1))), (b3, .inl (cJ, 49, .inr (.inl R.2.2))), (b4, .inl (cJ, 128, .inr (.inl se))), (b5, .inl (cI, 13, .inl ta))] H → va_D A [(bM, .inr (7, [.int th, .long tc, .ref b0, .int pd, .ref b1, .ref b2, .ref b3, .long be, .ref b4, .ref b5, .int fs])), (b0, .inl (cI, 7, .inl mr)), (b1, .inl (cI, 400, .inl mp)), (b2, .inl (cJ, 49, .inr (.inl R.2.1))), (b3, .inl (cJ, 49, .inr (.inl R.2.2))), (b4, .inl (cJ, 128, .inr (.inl se))), (b5, .inl (cI, 13, .inl ta))] → va_S A s.heap H locs → lv_has ls 12 [(0, .ref bM), (2, .int x2), (3, .int x3), (4, .int x4), (5, .long x5), (7, .int x7)] → W p l e rmX7_works s m args below meth c H locs 0 0 Q (F0 m 387 ls [])) (hf : b_X7_works_284 k x2 x3 x4 x5 x7 x8 s0 s1 th tc mr pd mp ch la be se ta fs = some R) : ∀ (H : Heap) (locs : List Loc) (ls : Array Slot), va_P (dC, dI) vwCl [(bM, .inr (7, [.int th, .long tc, .ref b0, .int pd, .ref b1, .ref b2, .ref b3, .long be, .ref b4, .ref b5, .int fs])), (b0, .inl (cI, 7, .inl mr)), (b1, .inl (cI, 400, .inl mp)), (b2, .inl (cJ, 49, .inr (.inl ch))), (b3, .inl (cJ, 49, .inr (.inl la))), (b4, .inl (cJ, 128, .inr (.inl se))), (b5, .inl (cI, 13, .inl ta))] H → va_D A [(bM, .inr (7, [.int th, .long tc, .ref b0, .int pd, .ref b1, .ref b2, .ref b3, .long be, .ref b4, .ref b5, .int fs])), (b0, .inl (cI, 7, .inl mr)), (b1, .inl (cI, 400, .inl mp)), (b2, .inl (cJ, 49, .inr (.inl ch))), (b3, .inl (cJ, 49, .inr (.inl la))), (b4, .inl (cJ, 128, .inr (.inl se))), (b5, .inl (cI, 13, .inl ta))] → va_S A s.heap H locs → lv_has ls 12 [(0, .ref bM), (2, .int x2), (3, .int x3), (4, .int x4), (5, .long x5), (7, .int x7), (8, .int x8)] → W p l e rmX7_works s m args below meth c H locs 0 0 Q (F0 m 284 ls [.long s0, .int s1, .ref b3]) := by
  obtain ⟨hx, hb, hml, hown, hts, hrt, hlk, hK, hX, hA⟩ := id C0
  intro H locs ls hP hD hS hl
  unfold b_X7_works_284 at hf
  obtain ⟨hin9, hf⟩ := q_gd hf
  refine q_last (g := vp_updL la (Int32.toNatClampNeg s1) s0) C0 hP hD hS 4 1 rfl rfl hin9 rfl dX7_works_284 (fun H locs hP hD hS => ?_)
  have hP : va_P (dC, dI) vwCl [(bM, .inr (7, [.int th, .long tc, .ref b0, .int pd, .ref b1, .ref b2, .ref b3, .long be, .ref b4, .ref b5, .int fs])), (b0, .inl (cI, 7, .inl mr)), (b1, .inl (cI, 400, .inl mp)), (b2, .inl (cJ, 49, .inr (.inl ch))), (b3, .inl (cJ, 49, .inr (.inl (vp_updL la (Int32.toNatClampNeg s1) s0)))), (b4, .inl (cJ, 128, .inr (.inl se))), (b5, .inl (cI, 13, .inl ta))] H := hP
  have hD : va_D A [(bM, .inr (7, [.int th, .long tc, .ref b0, .int pd, .ref b1, .ref b2, .ref b3, .long be, .ref b4, .ref b5, .int fs])), (b0, .inl (cI, 7, .inl mr)), (b1, .inl (cI, 400, .inl mp)), (b2, .inl (cJ, 49, .inr (.inl ch))), (b3, .inl (cJ, 49, .inr (.inl (vp_updL la (Int32.toNatClampNeg s1) s0)))), (b4, .inl (cJ, 128, .inr (.inl se))), (b5, .inl (cI, 13, .inl ta))] := hD
  refine lv_goto (tgt := 381) hx hb dX7_works_285 (by decide) ?_
  exact B_X7_works_381 C0 hk hq hf H locs ls hP hD hS hl
set_option maxHeartbeats 4000000 in
set_option maxRecDepth 100000 in
theorem B_X7_works_277 {p : Program} {l : Launch} {e : Env} {s : State} {m : MethodId} {args : Array Value} {below : List Frame} {meth : Method} {c : Code} {A : Nat → Prop} {dC : Nat → ClassId} {dI : Nat → Nat → Nat} {cI cJ cZ : ClassId} {bM b0 b1 b2 b3 b4 b5 : Nat} (C0 : q_C p s m args meth c (dC, dI) (q_T cI cJ cZ) A RX7 wsX7_works cX7_works 12 none) {Q : State → Prop} {k : (Int32 × (Nat → Int64) × (Nat → Int64)) → Option (Int32 × (Nat → Int64) × (Nat → Int64))} {x2 : Int32} {x3 : Int32} {x4 : Int32} {x5 : Int64} {x7 : Int32} {x8 : Int32} {s0 : Int32} {s1 : Int64} {s2 : Int64} {s3 : Int32} {th : Int32} {tc : Int64} {mr : (Nat → Int32)} {pd : Int32} {mp : (Nat → Int32)} {ch : (Nat → Int64)} {la : (Nat → Int64)} {be : Int64} {se : (Nat → Int64)} {ta : (Nat → Int32)} {fs : Int32} {R : Int32 × (Nat → Int64) × (Nat → Int64)} (hk : ∀ (v0 : Int32) (v1 : (Nat → Int64)) (v2 : (Nat → Int64)), k (v0, v1, v2) = some R → ∀ (H : Heap) (locs : List Loc) (ls : Array Slot), va_P (dC, dI) vwCl [(bM, .inr (7, [.int th, .long tc, .ref b0, .int pd, .ref b1, .ref b2, .ref b3, .long be, .ref b4, .ref b5, .int fs])), (b0, .inl (cI, 7, .inl mr)), (b1, .inl (cI, 400, .inl mp)), (b2, .inl (cJ, 49, .inr (.inl v1))), (b3, .inl (cJ, 49, .inr (.inl v2))), (b4, .inl (cJ, 128, .inr (.inl se))), (b5, .inl (cI, 13, .inl ta))] H → va_D A [(bM, .inr (7, [.int th, .long tc, .ref b0, .int pd, .ref b1, .ref b2, .ref b3, .long be, .ref b4, .ref b5, .int fs])), (b0, .inl (cI, 7, .inl mr)), (b1, .inl (cI, 400, .inl mp)), (b2, .inl (cJ, 49, .inr (.inl v1))), (b3, .inl (cJ, 49, .inr (.inl v2))), (b4, .inl (cJ, 128, .inr (.inl se))), (b5, .inl (cI, 13, .inl ta))] → va_S A s.heap H locs → lv_has ls 12 [(0, .ref bM), (2, .int x2), (3, .int x3), (4, .int x4), (5, .long x5), (7, .int x7), (8, .int v0)] → W p l e rmX7_works s m args below meth c H locs 0 0 Q (F0 m 57 ls [])) (hq : ∀ (H : Heap) (locs : List Loc) (ls : Array Slot), va_P (dC, dI) vwCl [(bM, .inr (7, [.int th, .long tc, .ref b0, .int pd, .ref b1, .ref b2, .ref b3, .long be, .ref b4, .ref b5, .int fs])), (b0, .inl (cI, 7, .inl mr)), (b1, .inl (cI, 400, .inl mp)), (b2, .inl (cJ, 49, .inr (.inl R.2.1))), (b3, .inl (cJ, 49, .inr (.inl R.2.2))), (b4, .inl (cJ, 128, .inr (.inl se))), (b5, .inl (cI, 13, .inl ta))] H → va_D A [(bM, .inr (7, [.int th, .long tc, .ref b0, .int pd, .ref b1, .ref b2, .ref b3, .long be, .ref b4, .ref b5, .int fs])), (b0, .inl (cI, 7, .inl mr)), (b1, .inl (cI, 400, .inl mp)), (b2, .inl (cJ, 49, .inr (.inl R.2.1))), (b3, .inl (cJ, 49, .inr (.inl R.2.2))), (b4, .inl (cJ, 128, .inr (.inl se))), (b5, .inl (cI, 13, .inl ta))] → va_S A s.heap H locs → lv_has ls 12 [(0, .ref bM), (2, .int x2), (3, .int x3), (4, .int x4), (5, .long x5), (7, .int x7)] → W p l e rmX7_works s m args below meth c H locs 0 0 Q (F0 m 387 ls [])) (hf : b_X7_works_277 k x2 x3 x4 x5 x7 x8 s0 s1 s2 s3 th tc mr pd mp ch la be se ta fs = some R) : ∀ (H : Heap) (locs : List Loc) (ls : Array Slot), va_P (dC, dI) vwCl [(bM, .inr (7, [.int th, .long tc, .ref b0, .int pd, .ref b1, .ref b2, .ref b3, .long be, .ref b4, .ref b5, .int fs])), (b0, .inl (cI, 7, .inl mr)), (b1, .inl (cI, 400, .inl mp)), (b2, .inl (cJ, 49, .inr (.inl ch))), (b3, .inl (cJ, 49, .inr (.inl la))), (b4, .inl (cJ, 128, .inr (.inl se))), (b5, .inl (cI, 13, .inl ta))] H → va_D A [(bM, .inr (7, [.int th, .long tc, .ref b0, .int pd, .ref b1, .ref b2, .ref b3, .long be, .ref b4, .ref b5, .int fs])), (b0, .inl (cI, 7, .inl mr)), (b1, .inl (cI, 400, .inl mp)), (b2, .inl (cJ, 49, .inr (.inl ch))), (b3, .inl (cJ, 49, .inr (.inl la))), (b4, .inl (cJ, 128, .inr (.inl se))), (b5, .inl (cI, 13, .inl ta))] → va_S A s.heap H locs → lv_has ls 12 [(0, .ref bM), (2, .int x2), (3, .int x3), (4, .int x4), (5, .long x5), (7, .int x7), (8, .int x8)] → W p l e rmX7_works s m args below meth c H locs 0 0 Q (F0 m 277 ls [.int s0, .long s1, .long s2, .int s3, .ref b3]) := by
  obtain ⟨hx, hb, hml, hown, hts, hrt, hlk, hK, hX, hA⟩ := id C0
  intro H locs ls hP hD hS hl
  unfold b_X7_works_277 at hf
  refine lv_i2l (v := Int32.toInt64 s0) hx hb dX7_works_277 rfl ?_
  refine lv_lmul hx hb dX7_works_278 ?_
  refine lv_ladd hx hb dX7_works_279 ?_
  refine lv_ldc2 hx hb hown (hts _ m_X7_works_k64) dX7_works_280 ?_
  refine lv_lmul hx hb dX7_works_283 ?_
  exact B_X7_works_284 C0 hk hq hf H locs ls hP hD hS hl
set_option maxHeartbeats 4000000 in
set_option maxRecDepth 100000 in
theorem B_X7_works_235 {p : Program} {l : Launch} {e : Env} {s : State} {m : MethodId} {args : Array Value} {below : List Frame} {meth : Method} {c : Code} {A : Nat → Prop} {dC : Nat → ClassId} {dI : Nat → Nat → Nat} {cI cJ cZ : ClassId} {bM b0 b1 b2 b3 b4 b5 : Nat} (C0 : q_C p s m args meth c (dC, dI) (q_T cI cJ cZ) A RX7 wsX7_works cX7_works 12 none) {Q : State → Prop} {k : (Int32 × (Nat → Int64) × (Nat → Int64)) → Option (Int32 × (Nat → Int64) × (Nat → Int64))} {x2 : Int32} {x3 : Int32} {x4 : Int32} {x5 : Int64} {x7 : Int32} {x8 : Int32} {x9 : Int32} {x10 : Int32} {s0 : Int64} {s1 : Int32} {th : Int32} {tc : Int64} {mr : (Nat → Int32)} {pd : Int32} {mp : (Nat → Int32)} {ch : (Nat → Int64)} {la : (Nat → Int64)} {be : Int64} {se : (Nat → Int64)} {ta : (Nat → Int32)} {fs : Int32} {R : Int32 × (Nat → Int64) × (Nat → Int64)} (hk : ∀ (v0 : Int32) (v1 : (Nat → Int64)) (v2 : (Nat → Int64)), k (v0, v1, v2) = some R → ∀ (H : Heap) (locs : List Loc) (ls : Array Slot), va_P (dC, dI) vwCl [(bM, .inr (7, [.int th, .long tc, .ref b0, .int pd, .ref b1, .ref b2, .ref b3, .long be, .ref b4, .ref b5, .int fs])), (b0, .inl (cI, 7, .inl mr)), (b1, .inl (cI, 400, .inl mp)), (b2, .inl (cJ, 49, .inr (.inl v1))), (b3, .inl (cJ, 49, .inr (.inl v2))), (b4, .inl (cJ, 128, .inr (.inl se))), (b5, .inl (cI, 13, .inl ta))] H → va_D A [(bM, .inr (7, [.int th, .long tc, .ref b0, .int pd, .ref b1, .ref b2, .ref b3, .long be, .ref b4, .ref b5, .int fs])), (b0, .inl (cI, 7, .inl mr)), (b1, .inl (cI, 400, .inl mp)), (b2, .inl (cJ, 49, .inr (.inl v1))), (b3, .inl (cJ, 49, .inr (.inl v2))), (b4, .inl (cJ, 128, .inr (.inl se))), (b5, .inl (cI, 13, .inl ta))] → va_S A s.heap H locs → lv_has ls 12 [(0, .ref bM), (2, .int x2), (3, .int x3), (4, .int x4), (5, .long x5), (7, .int x7), (8, .int v0)] → W p l e rmX7_works s m args below meth c H locs 0 0 Q (F0 m 57 ls [])) (hq : ∀ (H : Heap) (locs : List Loc) (ls : Array Slot), va_P (dC, dI) vwCl [(bM, .inr (7, [.int th, .long tc, .ref b0, .int pd, .ref b1, .ref b2, .ref b3, .long be, .ref b4, .ref b5, .int fs])), (b0, .inl (cI, 7, .inl mr)), (b1, .inl (cI, 400, .inl mp)), (b2, .inl (cJ, 49, .inr (.inl R.2.1))), (b3, .inl (cJ, 49, .inr (.inl R.2.2))), (b4, .inl (cJ, 128, .inr (.inl se))), (b5, .inl (cI, 13, .inl ta))] H → va_D A [(bM, .inr (7, [.int th, .long tc, .ref b0, .int pd, .ref b1, .ref b2, .ref b3, .long be, .ref b4, .ref b5, .int fs])), (b0, .inl (cI, 7, .inl mr)), (b1, .inl (cI, 400, .inl mp)), (b2, .inl (cJ, 49, .inr (.inl R.2.1))), (b3, .inl (cJ, 49, .inr (.inl R.2.2))), (b4, .inl (cJ, 128, .inr (.inl se))), (b5, .inl (cI, 13, .inl ta))] → va_S A s.heap H locs → lv_has ls 12 [(0, .ref bM), (2, .int x2), (3, .int x3), (4, .int x4), (5, .long x5), (7, .int x7)] → W p l e rmX7_works s m args below meth c H locs 0 0 Q (F0 m 387 ls [])) (hf : b_X7_works_235 k x2 x3 x4 x5 x7 x8 x9 x10 s0 s1 th tc mr pd mp ch la be se ta fs = some R) : ∀ (H : Heap) (locs : List Loc) (ls : Array Slot), va_P (dC, dI) vwCl [(bM, .inr (7, [.int th, .long tc, .ref b0, .int pd, .ref b1, .ref b2, .ref b3, .long be, .ref b4, .ref b5, .int fs])), (b0, .inl (cI, 7, .inl mr)), (b1, .inl (cI, 400, .inl mp)), (b2, .inl (cJ, 49, .inr (.inl ch))), (b3, .inl (cJ, 49, .inr (.inl la))), (b4, .inl (cJ, 128, .inr (.inl se))), (b5, .inl (cI, 13, .inl ta))] H → va_D A [(bM, .inr (7, [.int th, .long tc, .ref b0, .int pd, .ref b1, .ref b2, .ref b3, .long be, .ref b4, .ref b5, .int fs])), (b0, .inl (cI, 7, .inl mr)), (b1, .inl (cI, 400, .inl mp)), (b2, .inl (cJ, 49, .inr (.inl ch))), (b3, .inl (cJ, 49, .inr (.inl la))), (b4, .inl (cJ, 128, .inr (.inl se))), (b5, .inl (cI, 13, .inl ta))] → va_S A s.heap H locs → lv_has ls 12 [(0, .ref bM), (2, .int x2), (3, .int x3), (4, .int x4), (5, .long x5), (7, .int x7), (8, .int x8), (9, .int x9), (10, .int x10)] → W p l e rmX7_works s m args below meth c H locs 0 0 Q (F0 m 235 ls [.long s0, .int s1, .ref b2]) := by
  obtain ⟨hx, hb, hml, hown, hts, hrt, hlk, hK, hX, hA⟩ := id C0
  intro H locs ls hP hD hS hl
  unfold b_X7_works_235 at hf
  obtain ⟨hin10, hf⟩ := q_gd hf
  refine q_last (g := vp_updL ch (Int32.toNatClampNeg s1) s0) C0 hP hD hS 3 1 rfl rfl hin10 rfl dX7_works_235 (fun H locs hP hD hS => ?_)
  have hP : va_P (dC, dI) vwCl [(bM, .inr (7, [.int th, .long tc, .ref b0, .int pd, .ref b1, .ref b2, .ref b3, .long be, .ref b4, .ref b5, .int fs])), (b0, .inl (cI, 7, .inl mr)), (b1, .inl (cI, 400, .inl mp)), (b2, .inl (cJ, 49, .inr (.inl (vp_updL ch (Int32.toNatClampNeg s1) s0)))), (b3, .inl (cJ, 49, .inr (.inl la))), (b4, .inl (cJ, 128, .inr (.inl se))), (b5, .inl (cI, 13, .inl ta))] H := hP
  have hD : va_D A [(bM, .inr (7, [.int th, .long tc, .ref b0, .int pd, .ref b1, .ref b2, .ref b3, .long be, .ref b4, .ref b5, .int fs])), (b0, .inl (cI, 7, .inl mr)), (b1, .inl (cI, 400, .inl mp)), (b2, .inl (cJ, 49, .inr (.inl (vp_updL ch (Int32.toNatClampNeg s1) s0)))), (b3, .inl (cJ, 49, .inr (.inl la))), (b4, .inl (cJ, 128, .inr (.inl se))), (b5, .inl (cI, 13, .inl ta))] := hD
  refine lv_aload_n hx hb dX7_works_236 rfl (lv_at hl 0 rfl) ?_
  refine q_get (TT := TX7) C0 in_X7_works_X7 6 m_X7_works_f20 hP 0 rfl rfl (by decide) rfl rfl dX7_works_237 ?_
  refine lv_iload hx hb dX7_works_240 (lv_at hl 8 rfl) ?_
  refine lv_iload hx hb dX7_works_242 (lv_at hl 6 rfl) ?_
  refine lv_iload hx hb dX7_works_244 (lv_at hl 7 rfl) ?_
  refine lv_icmp_ne (tgt := 255) hx hb dX7_works_246 (by decide) (fun hc11 => ?_) (fun hc11 => ?_)
  · have hf := q_nif hf hc11
    refine lv_ldc2 hx hb hown (hts _ m_X7_works_k68) dX7_works_255 ?_
    refine lv_lload hx hb dX7_works_258 (lv_at hl 4 rfl) ?_
    refine lv_lmul hx hb dX7_works_260 ?_
    refine lv_ldc2 hx hb hown (hts _ m_X7_works_k70) dX7_works_261 ?_
    refine lv_iload hx hb dX7_works_264 (lv_at hl 6 rfl) ?_
    refine lv_iload hx hb dX7_works_266 (lv_at hl 7 rfl) ?_
    refine lv_icmp_le (tgt := 276) hx hb dX7_works_268 (by decide) (fun hc12 => ?_) (fun hc12 => ?_)
    · have hf := q_if hf hc12
      refine lv_iload_n hx hb dX7_works_276 rfl (lv_at hl 2 rfl) ?_
      exact B_X7_works_277 C0 hk hq hf H locs ls hP hD hS (lv_sub hl [0, 1, 2, 3, 4, 5, 6] rfl)
    · have hf := q_nif hf hc12
      refine lv_iload hx hb dX7_works_271 (lv_at hl 3 rfl) ?_
      refine lv_goto (tgt := 277) hx hb dX7_works_273 (by decide) ?_
      exact B_X7_works_277 C0 hk hq hf H locs ls hP hD hS (lv_sub hl [0, 1, 2, 3, 4, 5, 6] rfl)
  · have hf := q_if hf hc11
    refine lv_ldc2 hx hb hown (hts _ m_X7_works_k66) dX7_works_249 ?_
    refine lv_goto (tgt := 284) hx hb dX7_works_252 (by decide) ?_
    exact B_X7_works_284 C0 hk hq hf H locs ls hP hD hS (lv_sub hl [0, 1, 2, 3, 4, 5, 6] rfl)
set_option maxHeartbeats 4000000 in
set_option maxRecDepth 100000 in
theorem B_X7_works_136 {p : Program} {l : Launch} {e : Env} {s : State} {m : MethodId} {args : Array Value} {below : List Frame} {meth : Method} {c : Code} {A : Nat → Prop} {dC : Nat → ClassId} {dI : Nat → Nat → Nat} {cI cJ cZ : ClassId} {bM b0 b1 b2 b3 b4 b5 : Nat} (C0 : q_C p s m args meth c (dC, dI) (q_T cI cJ cZ) A RX7 wsX7_works cX7_works 12 none) {Q : State → Prop} {k : (Int32 × (Nat → Int64) × (Nat → Int64)) → Option (Int32 × (Nat → Int64) × (Nat → Int64))} {x2 : Int32} {x3 : Int32} {x4 : Int32} {x5 : Int64} {x7 : Int32} {x8 : Int32} {x10 : Int32} {s0 : Int64} {s1 : Int32} {th : Int32} {tc : Int64} {mr : (Nat → Int32)} {pd : Int32} {mp : (Nat → Int32)} {ch : (Nat → Int64)} {la : (Nat → Int64)} {be : Int64} {se : (Nat → Int64)} {ta : (Nat → Int32)} {fs : Int32} {R : Int32 × (Nat → Int64) × (Nat → Int64)} (hk : ∀ (v0 : Int32) (v1 : (Nat → Int64)) (v2 : (Nat → Int64)), k (v0, v1, v2) = some R → ∀ (H : Heap) (locs : List Loc) (ls : Array Slot), va_P (dC, dI) vwCl [(bM, .inr (7, [.int th, .long tc, .ref b0, .int pd, .ref b1, .ref b2, .ref b3, .long be, .ref b4, .ref b5, .int fs])), (b0, .inl (cI, 7, .inl mr)), (b1, .inl (cI, 400, .inl mp)), (b2, .inl (cJ, 49, .inr (.inl v1))), (b3, .inl (cJ, 49, .inr (.inl v2))), (b4, .inl (cJ, 128, .inr (.inl se))), (b5, .inl (cI, 13, .inl ta))] H → va_D A [(bM, .inr (7, [.int th, .long tc, .ref b0, .int pd, .ref b1, .ref b2, .ref b3, .long be, .ref b4, .ref b5, .int fs])), (b0, .inl (cI, 7, .inl mr)), (b1, .inl (cI, 400, .inl mp)), (b2, .inl (cJ, 49, .inr (.inl v1))), (b3, .inl (cJ, 49, .inr (.inl v2))), (b4, .inl (cJ, 128, .inr (.inl se))), (b5, .inl (cI, 13, .inl ta))] → va_S A s.heap H locs → lv_has ls 12 [(0, .ref bM), (2, .int x2), (3, .int x3), (4, .int x4), (5, .long x5), (7, .int x7), (8, .int v0)] → W p l e rmX7_works s m args below meth c H locs 0 0 Q (F0 m 57 ls [])) (hq : ∀ (H : Heap) (locs : List Loc) (ls : Array Slot), va_P (dC, dI) vwCl [(bM, .inr (7, [.int th, .long tc, .ref b0, .int pd, .ref b1, .ref b2, .ref b3, .long be, .ref b4, .ref b5, .int fs])), (b0, .inl (cI, 7, .inl mr)), (b1, .inl (cI, 400, .inl mp)), (b2, .inl (cJ, 49, .inr (.inl R.2.1))), (b3, .inl (cJ, 49, .inr (.inl R.2.2))), (b4, .inl (cJ, 128, .inr (.inl se))), (b5, .inl (cI, 13, .inl ta))] H → va_D A [(bM, .inr (7, [.int th, .long tc, .ref b0, .int pd, .ref b1, .ref b2, .ref b3, .long be, .ref b4, .ref b5, .int fs])), (b0, .inl (cI, 7, .inl mr)), (b1, .inl (cI, 400, .inl mp)), (b2, .inl (cJ, 49, .inr (.inl R.2.1))), (b3, .inl (cJ, 49, .inr (.inl R.2.2))), (b4, .inl (cJ, 128, .inr (.inl se))), (b5, .inl (cI, 13, .inl ta))] → va_S A s.heap H locs → lv_has ls 12 [(0, .ref bM), (2, .int x2), (3, .int x3), (4, .int x4), (5, .long x5), (7, .int x7)] → W p l e rmX7_works s m args below meth c H locs 0 0 Q (F0 m 387 ls [])) (hf : b_X7_works_136 k x2 x3 x4 x5 x7 x8 x10 s0 s1 th tc mr pd mp ch la be se ta fs = some R) : ∀ (H : Heap) (locs : List Loc) (ls : Array Slot), va_P (dC, dI) vwCl [(bM, .inr (7, [.int th, .long tc, .ref b0, .int pd, .ref b1, .ref b2, .ref b3, .long be, .ref b4, .ref b5, .int fs])), (b0, .inl (cI, 7, .inl mr)), (b1, .inl (cI, 400, .inl mp)), (b2, .inl (cJ, 49, .inr (.inl ch))), (b3, .inl (cJ, 49, .inr (.inl la))), (b4, .inl (cJ, 128, .inr (.inl se))), (b5, .inl (cI, 13, .inl ta))] H → va_D A [(bM, .inr (7, [.int th, .long tc, .ref b0, .int pd, .ref b1, .ref b2, .ref b3, .long be, .ref b4, .ref b5, .int fs])), (b0, .inl (cI, 7, .inl mr)), (b1, .inl (cI, 400, .inl mp)), (b2, .inl (cJ, 49, .inr (.inl ch))), (b3, .inl (cJ, 49, .inr (.inl la))), (b4, .inl (cJ, 128, .inr (.inl se))), (b5, .inl (cI, 13, .inl ta))] → va_S A s.heap H locs → lv_has ls 12 [(0, .ref bM), (2, .int x2), (3, .int x3), (4, .int x4), (5, .long x5), (7, .int x7), (8, .int x8), (10, .int x10)] → W p l e rmX7_works s m args below meth c H locs 0 0 Q (F0 m 136 ls [.long s0, .int s1, .ref b2]) := by
  obtain ⟨hx, hb, hml, hown, hts, hrt, hlk, hK, hX, hA⟩ := id C0
  intro H locs ls hP hD hS hl
  unfold b_X7_works_136 at hf
  obtain ⟨hin13, hf⟩ := q_gd hf
  refine q_last (g := vp_updL ch (Int32.toNatClampNeg s1) s0) C0 hP hD hS 3 1 rfl rfl hin13 rfl dX7_works_136 (fun H locs hP hD hS => ?_)
  have hP : va_P (dC, dI) vwCl [(bM, .inr (7, [.int th, .long tc, .ref b0, .int pd, .ref b1, .ref b2, .ref b3, .long be, .ref b4, .ref b5, .int fs])), (b0, .inl (cI, 7, .inl mr)), (b1, .inl (cI, 400, .inl mp)), (b2, .inl (cJ, 49, .inr (.inl (vp_updL ch (Int32.toNatClampNeg s1) s0)))), (b3, .inl (cJ, 49, .inr (.inl la))), (b4, .inl (cJ, 128, .inr (.inl se))), (b5, .inl (cI, 13, .inl ta))] H := hP
  have hD : va_D A [(bM, .inr (7, [.int th, .long tc, .ref b0, .int pd, .ref b1, .ref b2, .ref b3, .long be, .ref b4, .ref b5, .int fs])), (b0, .inl (cI, 7, .inl mr)), (b1, .inl (cI, 400, .inl mp)), (b2, .inl (cJ, 49, .inr (.inl (vp_updL ch (Int32.toNatClampNeg s1) s0)))), (b3, .inl (cJ, 49, .inr (.inl la))), (b4, .inl (cJ, 128, .inr (.inl se))), (b5, .inl (cI, 13, .inl ta))] := hD
  refine lv_aload_n hx hb dX7_works_137 rfl (lv_at hl 0 rfl) ?_
  refine q_get (TT := TX7) C0 in_X7_works_X7 6 m_X7_works_f20 hP 0 rfl rfl (by decide) rfl rfl dX7_works_138 ?_
  refine lv_iload hx hb dX7_works_141 (lv_at hl 7 rfl) ?_
  refine lv_lconst (v := 0) hx hb dX7_works_143 (by decide) ?_
  obtain ⟨hin14, hf⟩ := q_gd hf
  refine q_last (g := vp_updL la (Int32.toNatClampNeg x10) (0 : Int64)) C0 hP hD hS 4 1 rfl rfl hin14 rfl dX7_works_144 (fun H locs hP hD hS => ?_)
  have hP : va_P (dC, dI) vwCl [(bM, .inr (7, [.int th, .long tc, .ref b0, .int pd, .ref b1, .ref b2, .ref b3, .long be, .ref b4, .ref b5, .int fs])), (b0, .inl (cI, 7, .inl mr)), (b1, .inl (cI, 400, .inl mp)), (b2, .inl (cJ, 49, .inr (.inl (vp_updL ch (Int32.toNatClampNeg s1) s0)))), (b3, .inl (cJ, 49, .inr (.inl (vp_updL la (Int32.toNatClampNeg x10) (0 : Int64))))), (b4, .inl (cJ, 128, .inr (.inl se))), (b5, .inl (cI, 13, .inl ta))] H := hP
  have hD : va_D A [(bM, .inr (7, [.int th, .long tc, .ref b0, .int pd, .ref b1, .ref b2, .ref b3, .long be, .ref b4, .ref b5, .int fs])), (b0, .inl (cI, 7, .inl mr)), (b1, .inl (cI, 400, .inl mp)), (b2, .inl (cJ, 49, .inr (.inl (vp_updL ch (Int32.toNatClampNeg s1) s0)))), (b3, .inl (cJ, 49, .inr (.inl (vp_updL la (Int32.toNatClampNeg x10) (0 : Int64))))), (b4, .inl (cJ, 128, .inr (.inl se))), (b5, .inl (cI, 13, .inl ta))] := hD
  refine lv_goto (tgt := 381) hx hb dX7_works_145 (by decide) ?_
  exact B_X7_works_381 C0 hk hq hf H locs ls hP hD hS (lv_sub hl [0, 1, 2, 3, 4, 5, 6] rfl)
set_option maxHeartbeats 4000000 in
set_option maxRecDepth 100000 in
theorem B_X7_works_57 {p : Program} {l : Launch} {e : Env} {s : State} {m : MethodId} {args : Array Value} {below : List Frame} {meth : Method} {c : Code} {A : Nat → Prop} {dC : Nat → ClassId} {dI : Nat → Nat → Nat} {cI cJ cZ : ClassId} {bM b0 b1 b2 b3 b4 b5 : Nat} (C0 : q_C p s m args meth c (dC, dI) (q_T cI cJ cZ) A RX7 wsX7_works cX7_works 12 none) {Q : State → Prop} {k : (Int32 × (Nat → Int64) × (Nat → Int64)) → Option (Int32 × (Nat → Int64) × (Nat → Int64))} {x2 : Int32} {x3 : Int32} {x4 : Int32} {x5 : Int64} {x7 : Int32} {x8 : Int32} {th : Int32} {tc : Int64} {mr : (Nat → Int32)} {pd : Int32} {mp : (Nat → Int32)} {ch : (Nat → Int64)} {la : (Nat → Int64)} {be : Int64} {se : (Nat → Int64)} {ta : (Nat → Int32)} {fs : Int32} {R : Int32 × (Nat → Int64) × (Nat → Int64)} (hk : ∀ (v0 : Int32) (v1 : (Nat → Int64)) (v2 : (Nat → Int64)), k (v0, v1, v2) = some R → ∀ (H : Heap) (locs : List Loc) (ls : Array Slot), va_P (dC, dI) vwCl [(bM, .inr (7, [.int th, .long tc, .ref b0, .int pd, .ref b1, .ref b2, .ref b3, .long be, .ref b4, .ref b5, .int fs])), (b0, .inl (cI, 7, .inl mr)), (b1, .inl (cI, 400, .inl mp)), (b2, .inl (cJ, 49, .inr (.inl v1))), (b3, .inl (cJ, 49, .inr (.inl v2))), (b4, .inl (cJ, 128, .inr (.inl se))), (b5, .inl (cI, 13, .inl ta))] H → va_D A [(bM, .inr (7, [.int th, .long tc, .ref b0, .int pd, .ref b1, .ref b2, .ref b3, .long be, .ref b4, .ref b5, .int fs])), (b0, .inl (cI, 7, .inl mr)), (b1, .inl (cI, 400, .inl mp)), (b2, .inl (cJ, 49, .inr (.inl v1))), (b3, .inl (cJ, 49, .inr (.inl v2))), (b4, .inl (cJ, 128, .inr (.inl se))), (b5, .inl (cI, 13, .inl ta))] → va_S A s.heap H locs → lv_has ls 12 [(0, .ref bM), (2, .int x2), (3, .int x3), (4, .int x4), (5, .long x5), (7, .int x7), (8, .int v0)] → W p l e rmX7_works s m args below meth c H locs 0 0 Q (F0 m 57 ls [])) (hq : ∀ (H : Heap) (locs : List Loc) (ls : Array Slot), va_P (dC, dI) vwCl [(bM, .inr (7, [.int th, .long tc, .ref b0, .int pd, .ref b1, .ref b2, .ref b3, .long be, .ref b4, .ref b5, .int fs])), (b0, .inl (cI, 7, .inl mr)), (b1, .inl (cI, 400, .inl mp)), (b2, .inl (cJ, 49, .inr (.inl R.2.1))), (b3, .inl (cJ, 49, .inr (.inl R.2.2))), (b4, .inl (cJ, 128, .inr (.inl se))), (b5, .inl (cI, 13, .inl ta))] H → va_D A [(bM, .inr (7, [.int th, .long tc, .ref b0, .int pd, .ref b1, .ref b2, .ref b3, .long be, .ref b4, .ref b5, .int fs])), (b0, .inl (cI, 7, .inl mr)), (b1, .inl (cI, 400, .inl mp)), (b2, .inl (cJ, 49, .inr (.inl R.2.1))), (b3, .inl (cJ, 49, .inr (.inl R.2.2))), (b4, .inl (cJ, 128, .inr (.inl se))), (b5, .inl (cI, 13, .inl ta))] → va_S A s.heap H locs → lv_has ls 12 [(0, .ref bM), (2, .int x2), (3, .int x3), (4, .int x4), (5, .long x5), (7, .int x7)] → W p l e rmX7_works s m args below meth c H locs 0 0 Q (F0 m 387 ls [])) (hf : b_X7_works_57 k x2 x3 x4 x5 x7 x8 th tc mr pd mp ch la be se ta fs = some R) : ∀ (H : Heap) (locs : List Loc) (ls : Array Slot), va_P (dC, dI) vwCl [(bM, .inr (7, [.int th, .long tc, .ref b0, .int pd, .ref b1, .ref b2, .ref b3, .long be, .ref b4, .ref b5, .int fs])), (b0, .inl (cI, 7, .inl mr)), (b1, .inl (cI, 400, .inl mp)), (b2, .inl (cJ, 49, .inr (.inl ch))), (b3, .inl (cJ, 49, .inr (.inl la))), (b4, .inl (cJ, 128, .inr (.inl se))), (b5, .inl (cI, 13, .inl ta))] H → va_D A [(bM, .inr (7, [.int th, .long tc, .ref b0, .int pd, .ref b1, .ref b2, .ref b3, .long be, .ref b4, .ref b5, .int fs])), (b0, .inl (cI, 7, .inl mr)), (b1, .inl (cI, 400, .inl mp)), (b2, .inl (cJ, 49, .inr (.inl ch))), (b3, .inl (cJ, 49, .inr (.inl la))), (b4, .inl (cJ, 128, .inr (.inl se))), (b5, .inl (cI, 13, .inl ta))] → va_S A s.heap H locs → lv_has ls 12 [(0, .ref bM), (2, .int x2), (3, .int x3), (4, .int x4), (5, .long x5), (7, .int x7), (8, .int x8)] → W p l e rmX7_works s m args below meth c H locs 0 0 Q (F0 m 57 ls []) := by
  obtain ⟨hx, hb, hml, hown, hts, hrt, hlk, hK, hX, hA⟩ := id C0
  intro H locs ls hP hD hS hl
  unfold b_X7_works_57 at hf
  refine lv_iload hx hb dX7_works_57 (lv_at hl 6 rfl) ?_
  refine lv_iload_n hx hb dX7_works_59 rfl (lv_at hl 1 rfl) ?_
  refine lv_iconst (v := 1) hx hb dX7_works_60 (by decide) ?_
  refine lv_iadd hx hb dX7_works_61 ?_
  refine lv_icmp_gt (tgt := 387) hx hb dX7_works_62 (by decide) (fun hc15 => ?_) (fun hc15 => ?_)
  · have hf := q_if hf hc15
    obtain rfl := Option.some.inj hf
    exact hq H locs ls hP hD hS (lv_sub hl [0, 1, 2, 3, 4, 5] rfl)
  · have hf := q_nif hf hc15
    refine lv_iload hx hb dX7_works_65 (lv_at hl 5 rfl) ?_
    refine lv_iload hx hb dX7_works_67 (lv_at hl 6 rfl) ?_
    refine lv_isub hx hb dX7_works_69 ?_
    refine lv_istore (lv' := [(9, .int (x7 - x8)), (0, .ref bM), (2, .int x2), (3, .int x3), (4, .int x4), (5, .long x5), (7, .int x7), (8, .int x8)]) hx hb dX7_works_70 hl (by decide) rfl (fun ls hl => ?_)
    refine lv_iload hx hb dX7_works_72 (lv_at hl 0 rfl) ?_
    refine lv_iconst (v := 0) hx hb dX7_works_74 (by decide) ?_
    refine lv_iload_n hx hb dX7_works_75 rfl (lv_at hl 2 rfl) ?_
    refine lv_iconst (v := 1) hx hb dX7_works_76 (by decide) ?_
    refine lv_iadd hx hb dX7_works_77 ?_
    obtain ⟨r16, hg17, hf⟩ := q_e1 hf
    refine q_endI (wc := []) (wr := [(bM, .inr (7, [.int th, .long tc, .ref b0, .int pd, .ref b1, .ref b2, .ref b3, .long be, .ref b4, .ref b5, .int fs])), (b0, .inl (cI, 7, .inl mr)), (b1, .inl (cI, 400, .inl mp)), (b2, .inl (cJ, 49, .inr (.inl ch))), (b3, .inl (cJ, 49, .inr (.inl la))), (b4, .inl (cJ, 128, .inr (.inl se))), (b5, .inl (cI, 13, .inl ta))]) (w1 := []) (rv := r16) C0 hP hD hS [] [0, 1, 2, 3, 4, 5, 6] rfl rfl (by decide) (by decide) (q_runS C0 (c_X7_in (l := l) hg17) (va_cwS 3 hts gX7_works_X7_in rfl rfl rfl (by decide +kernel) ⟨Nat.le_of_ble_eq_true rfl, Nat.le_of_ble_eq_true rfl⟩) hP hD hS [] rfl (by decide) rfl rfl hl.1 (Nat.le_of_ble_eq_true rfl) dX7_works_78) (fun H locs hP hD hS => ?_)
    have hP : va_P (dC, dI) vwCl [(bM, .inr (7, [.int th, .long tc, .ref b0, .int pd, .ref b1, .ref b2, .ref b3, .long be, .ref b4, .ref b5, .int fs])), (b0, .inl (cI, 7, .inl mr)), (b1, .inl (cI, 400, .inl mp)), (b2, .inl (cJ, 49, .inr (.inl ch))), (b3, .inl (cJ, 49, .inr (.inl la))), (b4, .inl (cJ, 128, .inr (.inl se))), (b5, .inl (cI, 13, .inl ta))] H := hP
    have hD : va_D A [(bM, .inr (7, [.int th, .long tc, .ref b0, .int pd, .ref b1, .ref b2, .ref b3, .long be, .ref b4, .ref b5, .int fs])), (b0, .inl (cI, 7, .inl mr)), (b1, .inl (cI, 400, .inl mp)), (b2, .inl (cJ, 49, .inr (.inl ch))), (b3, .inl (cJ, 49, .inr (.inl la))), (b4, .inl (cJ, 128, .inr (.inl se))), (b5, .inl (cI, 13, .inl ta))] := hD
    refine lv_if_eq (tgt := 381) hx hb dX7_works_81 (by decide) (fun hc18 => ?_) (fun hc18 => ?_)
    · have hf := q_if hf hc18
      exact B_X7_works_381 C0 hk hq hf H locs ls hP hD hS (lv_sub hl [1, 2, 3, 4, 5, 6, 7] rfl)
    · have hf := q_nif hf hc18
      refine lv_bipush (v := 7) hx hb dX7_works_84 (by decide) ?_
      refine lv_iload hx hb dX7_works_86 (lv_at hl 7 rfl) ?_
      refine lv_imul hx hb dX7_works_88 ?_
      refine lv_iload hx hb dX7_works_89 (lv_at hl 0 rfl) ?_
      refine lv_iadd hx hb dX7_works_91 ?_
      refine lv_istore (lv' := [(10, .int ((7 * x8) + (x7 - x8))), (9, .int (x7 - x8)), (0, .ref bM), (2, .int x2), (3, .int x3), (4, .int x4), (5, .long x5), (7, .int x7), (8, .int x8)]) hx hb dX7_works_92 hl (by decide) rfl (fun ls hl => ?_)
      refine lv_aload_n hx hb dX7_works_94 rfl (lv_at hl 2 rfl) ?_
      refine lv_aload_n hx hb dX7_works_95 rfl (lv_at hl 2 rfl) ?_
      refine q_get (TT := TX7) C0 in_X7_works_X7 2 m_X7_works_f7 hP 0 rfl rfl (by decide) rfl rfl dX7_works_96 ?_
      refine lv_bipush (v := 6) hx hb dX7_works_99 (by decide) ?_
      refine q_iald (v := mr 6) C0 hP 1 0 rfl rfl (by unfold vp_in; decide) rfl dX7_works_101 ?_
      refine lv_iload hx hb dX7_works_102 (lv_at hl 8 rfl) ?_
      refine lv_iload hx hb dX7_works_104 (lv_at hl 1 rfl) ?_
      obtain ⟨r19, hg20, hf⟩ := q_e1 hf
      refine q_endI (wc := [(bM, .inr (7, [.int th, .long tc, .ref b0, .int pd, .ref b1, .ref b2, .ref b3, .long be, .ref b4, .ref b5, .int fs])), (b0, .inl (cI, 7, .inl mr)), (b1, .inl (cI, 400, .inl mp)), (b2, .inl (cJ, 49, .inr (.inl ch))), (b3, .inl (cJ, 49, .inr (.inl la))), (b4, .inl (cJ, 128, .inr (.inl se))), (b5, .inl (cI, 13, .inl ta))]) (wr := []) (w1 := [(bM, .inr (7, [.int th, .long tc, .ref b0, .int pd, .ref b1, .ref b2, .ref b3, .long be, .ref b4, .ref b5, .int fs])), (b0, .inl (cI, 7, .inl mr)), (b1, .inl (cI, 400, .inl mp)), (b2, .inl (cJ, 49, .inr (.inl ch))), (b3, .inl (cJ, 49, .inr (.inl la))), (b4, .inl (cJ, 128, .inr (.inl se))), (b5, .inl (cI, 13, .inl ta))]) (rv := r19) C0 hP hD hS [0, 1, 2, 3, 4, 5, 6] [] rfl rfl (by decide) (by decide) (q_runV (TT := TX7) (N := 11) (ci := 7) (q0 := 0) C0 (c_X7_wonOf (l := l) hg20) (cwV 3 hts gX7_works_X7_wonOf rfl rfl rfl (by decide +kernel) ⟨Nat.le_of_ble_eq_true rfl, Nat.le_of_ble_eq_true rfl⟩) hP hD hS [0, 1, 2, 3, 4, 5, 6] rfl (by decide) rfl rfl rfl rfl hl.1 (Nat.le_of_ble_eq_true rfl) dX7_works_106) (fun H locs hP hD hS => ?_)
      have hP : va_P (dC, dI) vwCl [(bM, .inr (7, [.int th, .long tc, .ref b0, .int pd, .ref b1, .ref b2, .ref b3, .long be, .ref b4, .ref b5, .int fs])), (b0, .inl (cI, 7, .inl mr)), (b1, .inl (cI, 400, .inl mp)), (b2, .inl (cJ, 49, .inr (.inl ch))), (b3, .inl (cJ, 49, .inr (.inl la))), (b4, .inl (cJ, 128, .inr (.inl se))), (b5, .inl (cI, 13, .inl ta))] H := hP
      have hD : va_D A [(bM, .inr (7, [.int th, .long tc, .ref b0, .int pd, .ref b1, .ref b2, .ref b3, .long be, .ref b4, .ref b5, .int fs])), (b0, .inl (cI, 7, .inl mr)), (b1, .inl (cI, 400, .inl mp)), (b2, .inl (cJ, 49, .inr (.inl ch))), (b3, .inl (cJ, 49, .inr (.inl la))), (b4, .inl (cJ, 128, .inr (.inl se))), (b5, .inl (cI, 13, .inl ta))] := hD
      refine lv_istore (lv' := [(11, .int r19), (10, .int ((7 * x8) + (x7 - x8))), (9, .int (x7 - x8)), (0, .ref bM), (2, .int x2), (3, .int x3), (4, .int x4), (5, .long x5), (7, .int x7), (8, .int x8)]) hx hb dX7_works_109 hl (by decide) rfl (fun ls hl => ?_)
      refine lv_iload hx hb dX7_works_111 (lv_at hl 0 rfl) ?_
      refine lv_if_le (tgt := 148) hx hb dX7_works_113 (by decide) (fun hc21 => ?_) (fun hc21 => ?_)
      · have hf := q_if hf hc21
        refine lv_iload hx hb dX7_works_148 (lv_at hl 9 rfl) ?_
        refine lv_iload_n hx hb dX7_works_150 rfl (lv_at hl 4 rfl) ?_
        refine lv_iconst (v := 1) hx hb dX7_works_151 (by decide) ?_
        refine lv_isub hx hb dX7_works_152 ?_
        refine lv_icmp_lt (tgt := 288) hx hb dX7_works_153 (by decide) (fun hc22 => ?_) (fun hc22 => ?_)
        · have hf := q_if hf hc22
          exact B_X7_works_288 C0 hk hq hf H locs ls hP hD hS (lv_sub hl [3, 4, 5, 6, 7, 8, 9, 2, 1] rfl)
        · have hf := q_nif hf hc22
          refine lv_iload hx hb dX7_works_156 (lv_at hl 2 rfl) ?_
          refine lv_iload_n hx hb dX7_works_158 rfl (lv_at hl 4 rfl) ?_
          refine lv_iconst (v := 1) hx hb dX7_works_159 (by decide) ?_
          refine lv_isub hx hb dX7_works_160 ?_
          refine lv_icmp_lt (tgt := 288) hx hb dX7_works_161 (by decide) (fun hc23 => ?_) (fun hc23 => ?_)
          · have hf := q_if hf hc23
            exact B_X7_works_288 C0 hk hq hf H locs ls hP hD hS (lv_sub hl [3, 4, 5, 6, 7, 8, 9, 2, 1] rfl)
          · have hf := q_nif hf hc23
            refine lv_aload_n hx hb dX7_works_164 rfl (lv_at hl 3 rfl) ?_
            refine q_get (TT := TX7) C0 in_X7_works_X7 2 m_X7_works_f7 hP 0 rfl rfl (by decide) rfl rfl dX7_works_165 ?_
            refine lv_bipush (v := 6) hx hb dX7_works_168 (by decide) ?_
            refine q_iald (v := mr 6) C0 hP 1 0 rfl rfl (by unfold vp_in; decide) rfl dX7_works_170 ?_
            refine lv_if_ne (tgt := 288) hx hb dX7_works_171 (by decide) (fun hc24 => ?_) (fun hc24 => ?_)
            · have hf := q_nif hf hc24
              exact B_X7_works_288 C0 hk hq hf H locs ls hP hD hS (lv_sub hl [3, 4, 5, 6, 7, 8, 9, 2, 1] rfl)
            · have hf := q_if hf hc24
              refine lv_aload_n hx hb dX7_works_174 rfl (lv_at hl 3 rfl) ?_
              refine q_get (TT := TX7) C0 in_X7_works_X7 5 m_X7_works_f16 hP 0 rfl rfl (by decide) rfl rfl dX7_works_175 ?_
              refine lv_iload hx hb dX7_works_178 (lv_at hl 1 rfl) ?_
              refine lv_iload hx hb dX7_works_180 (lv_at hl 9 rfl) ?_
              refine lv_iload hx hb dX7_works_182 (lv_at hl 2 rfl) ?_
              refine lv_icmp_ne (tgt := 198) hx hb dX7_works_184 (by decide) (fun hc25 => ?_) (fun hc25 => ?_)
              · have hf := q_nif hf hc25
                refine lv_iload hx hb dX7_works_198 (lv_at hl 9 rfl) ?_
                refine lv_iload hx hb dX7_works_200 (lv_at hl 2 rfl) ?_
                refine lv_icmp_le (tgt := 225) hx hb dX7_works_202 (by decide) (fun hc26 => ?_) (fun hc26 => ?_)
                · have hf := q_if hf hc26
                  refine lv_iload_n hx hb dX7_works_225 rfl (lv_at hl 5 rfl) ?_
                  refine lv_iload_n hx hb dX7_works_226 rfl (lv_at hl 5 rfl) ?_
                  refine lv_imul hx hb dX7_works_227 ?_
                  refine lv_iload_n hx hb dX7_works_228 rfl (lv_at hl 5 rfl) ?_
                  refine lv_imul hx hb dX7_works_229 ?_
                  refine lv_i2l (v := Int32.toInt64 ((x3 * x3) * x3)) hx hb dX7_works_230 rfl ?_
                  refine lv_ldc2 hx hb hown (hts _ m_X7_works_k64) dX7_works_231 ?_
                  refine lv_lmul hx hb dX7_works_234 ?_
                  exact B_X7_works_235 C0 hk hq hf H locs ls hP hD hS (lv_sub hl [3, 4, 5, 6, 7, 8, 9, 2, 1] rfl)
                · have hf := q_nif hf hc26
                  refine lv_iload_n hx hb dX7_works_205 rfl (lv_at hl 5 rfl) ?_
                  refine lv_i2l (v := Int32.toInt64 x3) hx hb dX7_works_206 rfl ?_
                  refine lv_lload hx hb dX7_works_207 (lv_at hl 7 rfl) ?_
                  refine lv_lmul hx hb dX7_works_209 ?_
                  refine lv_iload hx hb dX7_works_210 (lv_at hl 6 rfl) ?_
                  refine lv_iload_n hx hb dX7_works_212 rfl (lv_at hl 5 rfl) ?_
                  refine lv_imul hx hb dX7_works_213 ?_
                  refine lv_iload_n hx hb dX7_works_214 rfl (lv_at hl 5 rfl) ?_
                  refine lv_imul hx hb dX7_works_215 ?_
                  refine lv_i2l (v := Int32.toInt64 ((x4 * x3) * x3)) hx hb dX7_works_216 rfl ?_
                  refine lv_ladd hx hb dX7_works_217 ?_
                  refine lv_ldc2 hx hb hown (hts _ m_X7_works_k64) dX7_works_218 ?_
                  refine lv_lmul hx hb dX7_works_221 ?_
                  refine lv_goto (tgt := 235) hx hb dX7_works_222 (by decide) ?_
                  exact B_X7_works_235 C0 hk hq hf H locs ls hP hD hS (lv_sub hl [3, 4, 5, 6, 7, 8, 9, 2, 1] rfl)
              · have hf := q_if hf hc25
                refine lv_iload_n hx hb dX7_works_187 rfl (lv_at hl 5 rfl) ?_
                refine lv_iload_n hx hb dX7_works_188 rfl (lv_at hl 5 rfl) ?_
                refine lv_imul hx hb dX7_works_189 ?_
                refine lv_i2l (v := Int32.toInt64 (x3 * x3)) hx hb dX7_works_190 rfl ?_
                refine lv_ldc2 hx hb hown (hts _ m_X7_works_k59) dX7_works_191 ?_
                refine lv_lmul hx hb dX7_works_194 ?_
                refine lv_goto (tgt := 235) hx hb dX7_works_195 (by decide) ?_
                exact B_X7_works_235 C0 hk hq hf H locs ls hP hD hS (lv_sub hl [3, 4, 5, 6, 7, 8, 9, 2, 1] rfl)
      · have hf := q_nif hf hc21
        refine lv_aload_n hx hb dX7_works_116 rfl (lv_at hl 3 rfl) ?_
        refine q_get (TT := TX7) C0 in_X7_works_X7 5 m_X7_works_f16 hP 0 rfl rfl (by decide) rfl rfl dX7_works_117 ?_
        refine lv_iload hx hb dX7_works_120 (lv_at hl 1 rfl) ?_
        refine lv_iload hx hb dX7_works_122 (lv_at hl 0 rfl) ?_
        refine lv_iconst (v := 1) hx hb dX7_works_124 (by decide) ?_
        refine lv_icmp_ne (tgt := 135) hx hb dX7_works_125 (by decide) (fun hc27 => ?_) (fun hc27 => ?_)
        · have hf := q_nif hf hc27
          refine lv_lconst (v := 0) hx hb dX7_works_135 (by decide) ?_
          exact B_X7_works_136 C0 hk hq hf H locs ls hP hD hS (lv_sub hl [3, 4, 5, 6, 7, 8, 9, 1] rfl)
        · have hf := q_if hf hc27
          refine lv_aload_n hx hb dX7_works_128 rfl (lv_at hl 3 rfl) ?_
          refine q_get (TT := TX7) C0 in_X7_works_X7 7 m_X7_works_f61 hP 0 rfl rfl (by decide) rfl rfl dX7_works_129 ?_
          refine lv_goto (tgt := 136) hx hb dX7_works_132 (by decide) ?_
          exact B_X7_works_136 C0 hk hq hf H locs ls hP hD hS (lv_sub hl [3, 4, 5, 6, 7, 8, 9, 1] rfl)
set_option maxHeartbeats 4000000 in
set_option maxRecDepth 100000 in
theorem L_X7_works_57 {p : Program} {l : Launch} {e : Env} {s : State} {m : MethodId} {args : Array Value} {below : List Frame} {meth : Method} {c : Code} {A : Nat → Prop} {dC : Nat → ClassId} {dI : Nat → Nat → Nat} {cI cJ cZ : ClassId} {bM b0 b1 b2 b3 b4 b5 : Nat} (C0 : q_C p s m args meth c (dC, dI) (q_T cI cJ cZ) A RX7 wsX7_works cX7_works 12 none) {Q : State → Prop} {x2 : Int32} {x3 : Int32} {x4 : Int32} {x5 : Int64} {x7 : Int32} {th : Int32} {tc : Int64} {mr : (Nat → Int32)} {pd : Int32} {mp : (Nat → Int32)} {be : Int64} {se : (Nat → Int64)} {ta : (Nat → Int32)} {fs : Int32} : ∀ (n : Nat) (v0 : Int32) (v1 : (Nat → Int64)) (v2 : (Nat → Int64)) (R : Int32 × (Nat → Int64) × (Nat → Int64)), l_X7_works_57 x2 x3 x4 x5 x7 th tc mr pd mp be se ta fs n (v0, v1, v2) = some R → (∀ (H : Heap) (locs : List Loc) (ls : Array Slot), va_P (dC, dI) vwCl [(bM, .inr (7, [.int th, .long tc, .ref b0, .int pd, .ref b1, .ref b2, .ref b3, .long be, .ref b4, .ref b5, .int fs])), (b0, .inl (cI, 7, .inl mr)), (b1, .inl (cI, 400, .inl mp)), (b2, .inl (cJ, 49, .inr (.inl R.2.1))), (b3, .inl (cJ, 49, .inr (.inl R.2.2))), (b4, .inl (cJ, 128, .inr (.inl se))), (b5, .inl (cI, 13, .inl ta))] H → va_D A [(bM, .inr (7, [.int th, .long tc, .ref b0, .int pd, .ref b1, .ref b2, .ref b3, .long be, .ref b4, .ref b5, .int fs])), (b0, .inl (cI, 7, .inl mr)), (b1, .inl (cI, 400, .inl mp)), (b2, .inl (cJ, 49, .inr (.inl R.2.1))), (b3, .inl (cJ, 49, .inr (.inl R.2.2))), (b4, .inl (cJ, 128, .inr (.inl se))), (b5, .inl (cI, 13, .inl ta))] → va_S A s.heap H locs → lv_has ls 12 [(0, .ref bM), (2, .int x2), (3, .int x3), (4, .int x4), (5, .long x5), (7, .int x7)] → W p l e rmX7_works s m args below meth c H locs 0 0 Q (F0 m 387 ls [])) → ∀ (H : Heap) (locs : List Loc) (ls : Array Slot), va_P (dC, dI) vwCl [(bM, .inr (7, [.int th, .long tc, .ref b0, .int pd, .ref b1, .ref b2, .ref b3, .long be, .ref b4, .ref b5, .int fs])), (b0, .inl (cI, 7, .inl mr)), (b1, .inl (cI, 400, .inl mp)), (b2, .inl (cJ, 49, .inr (.inl v1))), (b3, .inl (cJ, 49, .inr (.inl v2))), (b4, .inl (cJ, 128, .inr (.inl se))), (b5, .inl (cI, 13, .inl ta))] H → va_D A [(bM, .inr (7, [.int th, .long tc, .ref b0, .int pd, .ref b1, .ref b2, .ref b3, .long be, .ref b4, .ref b5, .int fs])), (b0, .inl (cI, 7, .inl mr)), (b1, .inl (cI, 400, .inl mp)), (b2, .inl (cJ, 49, .inr (.inl v1))), (b3, .inl (cJ, 49, .inr (.inl v2))), (b4, .inl (cJ, 128, .inr (.inl se))), (b5, .inl (cI, 13, .inl ta))] → va_S A s.heap H locs → lv_has ls 12 [(0, .ref bM), (2, .int x2), (3, .int x3), (4, .int x4), (5, .long x5), (7, .int x7), (8, .int v0)] → W p l e rmX7_works s m args below meth c H locs 0 0 Q (F0 m 57 ls []) := by
  intro n
  induction n with
  | zero =>
    intro v0 v1 v2 R hf
    have hf : (none : Option (Int32 × (Nat → Int64) × (Nat → Int64))) = some R := hf
    cases hf
  | succ n ih =>
    intro v0 v1 v2 R hf hq
    have hf : b_X7_works_57 (l_X7_works_57 x2 x3 x4 x5 x7 th tc mr pd mp be se ta fs n) x2 x3 x4 x5 x7 v0 th tc mr pd mp v1 v2 be se ta fs = some R := hf
    exact B_X7_works_57 C0 (fun v0 v1 v2 h => ih v0 v1 v2 R h hq) hq hf
set_option maxHeartbeats 4000000 in
set_option maxRecDepth 100000 in
theorem B_X7_works_49 {p : Program} {l : Launch} {e : Env} {s : State} {m : MethodId} {args : Array Value} {below : List Frame} {meth : Method} {c : Code} {A : Nat → Prop} {dC : Nat → ClassId} {dI : Nat → Nat → Nat} {cI cJ cZ : ClassId} {bM b0 b1 b2 b3 b4 b5 : Nat} (C0 : q_C p s m args meth c (dC, dI) (q_T cI cJ cZ) A RX7 wsX7_works cX7_works 12 none) {Q : State → Prop} {k : (Int32 × (Nat → Int64) × (Nat → Int64)) → Option (Int32 × (Nat → Int64) × (Nat → Int64))} {x2 : Int32} {x3 : Int32} {x4 : Int32} {x5 : Int64} {x7 : Int32} {th : Int32} {tc : Int64} {mr : (Nat → Int32)} {pd : Int32} {mp : (Nat → Int32)} {ch : (Nat → Int64)} {la : (Nat → Int64)} {be : Int64} {se : (Nat → Int64)} {ta : (Nat → Int32)} {fs : Int32} {R : Int32 × (Nat → Int64) × (Nat → Int64)} (hk : ∀ (v0 : Int32) (v1 : (Nat → Int64)) (v2 : (Nat → Int64)), k (v0, v1, v2) = some R → ∀ (H : Heap) (locs : List Loc) (ls : Array Slot), va_P (dC, dI) vwCl [(bM, .inr (7, [.int th, .long tc, .ref b0, .int pd, .ref b1, .ref b2, .ref b3, .long be, .ref b4, .ref b5, .int fs])), (b0, .inl (cI, 7, .inl mr)), (b1, .inl (cI, 400, .inl mp)), (b2, .inl (cJ, 49, .inr (.inl v1))), (b3, .inl (cJ, 49, .inr (.inl v2))), (b4, .inl (cJ, 128, .inr (.inl se))), (b5, .inl (cI, 13, .inl ta))] H → va_D A [(bM, .inr (7, [.int th, .long tc, .ref b0, .int pd, .ref b1, .ref b2, .ref b3, .long be, .ref b4, .ref b5, .int fs])), (b0, .inl (cI, 7, .inl mr)), (b1, .inl (cI, 400, .inl mp)), (b2, .inl (cJ, 49, .inr (.inl v1))), (b3, .inl (cJ, 49, .inr (.inl v2))), (b4, .inl (cJ, 128, .inr (.inl se))), (b5, .inl (cI, 13, .inl ta))] → va_S A s.heap H locs → lv_has ls 12 [(0, .ref bM), (2, .int x2), (3, .int x3), (4, .int x4), (5, .long x5), (7, .int v0)] → W p l e rmX7_works s m args below meth c H locs 0 0 Q (F0 m 49 ls [])) (hq : ∀ (H : Heap) (locs : List Loc) (ls : Array Slot), va_P (dC, dI) vwCl [(bM, .inr (7, [.int th, .long tc, .ref b0, .int pd, .ref b1, .ref b2, .ref b3, .long be, .ref b4, .ref b5, .int fs])), (b0, .inl (cI, 7, .inl mr)), (b1, .inl (cI, 400, .inl mp)), (b2, .inl (cJ, 49, .inr (.inl R.2.1))), (b3, .inl (cJ, 49, .inr (.inl R.2.2))), (b4, .inl (cJ, 128, .inr (.inl se))), (b5, .inl (cI, 13, .inl ta))] H → va_D A [(bM, .inr (7, [.int th, .long tc, .ref b0, .int pd, .ref b1, .ref b2, .ref b3, .long be, .ref b4, .ref b5, .int fs])), (b0, .inl (cI, 7, .inl mr)), (b1, .inl (cI, 400, .inl mp)), (b2, .inl (cJ, 49, .inr (.inl R.2.1))), (b3, .inl (cJ, 49, .inr (.inl R.2.2))), (b4, .inl (cJ, 128, .inr (.inl se))), (b5, .inl (cI, 13, .inl ta))] → va_S A s.heap H locs → lv_has ls 12 [] → W p l e rmX7_works s m args below meth c H locs 0 0 Q (F0 m 393 ls [])) (hf : b_X7_works_49 k x2 x3 x4 x5 x7 th tc mr pd mp ch la be se ta fs = some R) : ∀ (H : Heap) (locs : List Loc) (ls : Array Slot), va_P (dC, dI) vwCl [(bM, .inr (7, [.int th, .long tc, .ref b0, .int pd, .ref b1, .ref b2, .ref b3, .long be, .ref b4, .ref b5, .int fs])), (b0, .inl (cI, 7, .inl mr)), (b1, .inl (cI, 400, .inl mp)), (b2, .inl (cJ, 49, .inr (.inl ch))), (b3, .inl (cJ, 49, .inr (.inl la))), (b4, .inl (cJ, 128, .inr (.inl se))), (b5, .inl (cI, 13, .inl ta))] H → va_D A [(bM, .inr (7, [.int th, .long tc, .ref b0, .int pd, .ref b1, .ref b2, .ref b3, .long be, .ref b4, .ref b5, .int fs])), (b0, .inl (cI, 7, .inl mr)), (b1, .inl (cI, 400, .inl mp)), (b2, .inl (cJ, 49, .inr (.inl ch))), (b3, .inl (cJ, 49, .inr (.inl la))), (b4, .inl (cJ, 128, .inr (.inl se))), (b5, .inl (cI, 13, .inl ta))] → va_S A s.heap H locs → lv_has ls 12 [(0, .ref bM), (2, .int x2), (3, .int x3), (4, .int x4), (5, .long x5), (7, .int x7)] → W p l e rmX7_works s m args below meth c H locs 0 0 Q (F0 m 49 ls []) := by
  obtain ⟨hx, hb, hml, hown, hts, hrt, hlk, hK, hX, hA⟩ := id C0
  intro H locs ls hP hD hS hl
  unfold b_X7_works_49 at hf
  refine lv_iload hx hb dX7_works_49 (lv_at hl 5 rfl) ?_
  refine lv_if_lt (tgt := 393) hx hb dX7_works_51 (by decide) (fun hc28 => ?_) (fun hc28 => ?_)
  · have hf := q_if hf hc28
    obtain rfl := Option.some.inj hf
    exact hq H locs ls hP hD hS (lv_sub hl [] rfl)
  · have hf := q_nif hf hc28
    refine lv_iconst (v := 0) hx hb dX7_works_54 (by decide) ?_
    refine lv_istore (lv' := [(8, .int 0), (0, .ref bM), (2, .int x2), (3, .int x3), (4, .int x4), (5, .long x5), (7, .int x7)]) hx hb dX7_works_55 hl (by decide) rfl (fun ls hl => ?_)
    obtain ⟨y29, y30, y31, hg32, hf⟩ := q_e3 hf
    refine L_X7_works_57 C0 1000 _ _ _ _ hg32 ?_ H locs ls hP hD hS (lv_sub hl [1, 2, 3, 4, 5, 6, 0] rfl)
    intro H locs ls hP hD hS hl
    have hP : va_P (dC, dI) vwCl [(bM, .inr (7, [.int th, .long tc, .ref b0, .int pd, .ref b1, .ref b2, .ref b3, .long be, .ref b4, .ref b5, .int fs])), (b0, .inl (cI, 7, .inl mr)), (b1, .inl (cI, 400, .inl mp)), (b2, .inl (cJ, 49, .inr (.inl y30))), (b3, .inl (cJ, 49, .inr (.inl y31))), (b4, .inl (cJ, 128, .inr (.inl se))), (b5, .inl (cI, 13, .inl ta))] H := hP
    have hD : va_D A [(bM, .inr (7, [.int th, .long tc, .ref b0, .int pd, .ref b1, .ref b2, .ref b3, .long be, .ref b4, .ref b5, .int fs])), (b0, .inl (cI, 7, .inl mr)), (b1, .inl (cI, 400, .inl mp)), (b2, .inl (cJ, 49, .inr (.inl y30))), (b3, .inl (cJ, 49, .inr (.inl y31))), (b4, .inl (cJ, 128, .inr (.inl se))), (b5, .inl (cI, 13, .inl ta))] := hD
    have hl : lv_has ls 12 [(0, .ref bM), (2, .int x2), (3, .int x3), (4, .int x4), (5, .long x5), (7, .int x7)] := hl
    refine lv_iinc (v := x7 + (-1)) (lv' := [(7, .int (x7 + (-1))), (0, .ref bM), (2, .int x2), (3, .int x3), (4, .int x4), (5, .long x5)]) hx hb dX7_works_387 hl (k := 5) rfl rfl (by decide) rfl (fun ls hl => ?_)
    refine lv_goto (tgt := 49) hx hb dX7_works_390 (by decide) ?_
    exact hk _ _ _ hf H locs ls hP hD hS (lv_sub hl [1, 2, 3, 4, 5, 0] rfl)
set_option maxHeartbeats 4000000 in
set_option maxRecDepth 100000 in
theorem L_X7_works_49 {p : Program} {l : Launch} {e : Env} {s : State} {m : MethodId} {args : Array Value} {below : List Frame} {meth : Method} {c : Code} {A : Nat → Prop} {dC : Nat → ClassId} {dI : Nat → Nat → Nat} {cI cJ cZ : ClassId} {bM b0 b1 b2 b3 b4 b5 : Nat} (C0 : q_C p s m args meth c (dC, dI) (q_T cI cJ cZ) A RX7 wsX7_works cX7_works 12 none) {Q : State → Prop} {x2 : Int32} {x3 : Int32} {x4 : Int32} {x5 : Int64} {th : Int32} {tc : Int64} {mr : (Nat → Int32)} {pd : Int32} {mp : (Nat → Int32)} {be : Int64} {se : (Nat → Int64)} {ta : (Nat → Int32)} {fs : Int32} : ∀ (n : Nat) (v0 : Int32) (v1 : (Nat → Int64)) (v2 : (Nat → Int64)) (R : Int32 × (Nat → Int64) × (Nat → Int64)), l_X7_works_49 x2 x3 x4 x5 th tc mr pd mp be se ta fs n (v0, v1, v2) = some R → (∀ (H : Heap) (locs : List Loc) (ls : Array Slot), va_P (dC, dI) vwCl [(bM, .inr (7, [.int th, .long tc, .ref b0, .int pd, .ref b1, .ref b2, .ref b3, .long be, .ref b4, .ref b5, .int fs])), (b0, .inl (cI, 7, .inl mr)), (b1, .inl (cI, 400, .inl mp)), (b2, .inl (cJ, 49, .inr (.inl R.2.1))), (b3, .inl (cJ, 49, .inr (.inl R.2.2))), (b4, .inl (cJ, 128, .inr (.inl se))), (b5, .inl (cI, 13, .inl ta))] H → va_D A [(bM, .inr (7, [.int th, .long tc, .ref b0, .int pd, .ref b1, .ref b2, .ref b3, .long be, .ref b4, .ref b5, .int fs])), (b0, .inl (cI, 7, .inl mr)), (b1, .inl (cI, 400, .inl mp)), (b2, .inl (cJ, 49, .inr (.inl R.2.1))), (b3, .inl (cJ, 49, .inr (.inl R.2.2))), (b4, .inl (cJ, 128, .inr (.inl se))), (b5, .inl (cI, 13, .inl ta))] → va_S A s.heap H locs → lv_has ls 12 [] → W p l e rmX7_works s m args below meth c H locs 0 0 Q (F0 m 393 ls [])) → ∀ (H : Heap) (locs : List Loc) (ls : Array Slot), va_P (dC, dI) vwCl [(bM, .inr (7, [.int th, .long tc, .ref b0, .int pd, .ref b1, .ref b2, .ref b3, .long be, .ref b4, .ref b5, .int fs])), (b0, .inl (cI, 7, .inl mr)), (b1, .inl (cI, 400, .inl mp)), (b2, .inl (cJ, 49, .inr (.inl v1))), (b3, .inl (cJ, 49, .inr (.inl v2))), (b4, .inl (cJ, 128, .inr (.inl se))), (b5, .inl (cI, 13, .inl ta))] H → va_D A [(bM, .inr (7, [.int th, .long tc, .ref b0, .int pd, .ref b1, .ref b2, .ref b3, .long be, .ref b4, .ref b5, .int fs])), (b0, .inl (cI, 7, .inl mr)), (b1, .inl (cI, 400, .inl mp)), (b2, .inl (cJ, 49, .inr (.inl v1))), (b3, .inl (cJ, 49, .inr (.inl v2))), (b4, .inl (cJ, 128, .inr (.inl se))), (b5, .inl (cI, 13, .inl ta))] → va_S A s.heap H locs → lv_has ls 12 [(0, .ref bM), (2, .int x2), (3, .int x3), (4, .int x4), (5, .long x5), (7, .int v0)] → W p l e rmX7_works s m args below meth c H locs 0 0 Q (F0 m 49 ls []) := by
  intro n
  induction n with
  | zero =>
    intro v0 v1 v2 R hf
    have hf : (none : Option (Int32 × (Nat → Int64) × (Nat → Int64))) = some R := hf
    cases hf
  | succ n ih =>
    intro v0 v1 v2 R hf hq
    have hf : b_X7_works_49 (l_X7_works_49 x2 x3 x4 x5 th tc mr pd mp be se ta fs n) x2 x3 x4 x5 v0 th tc mr pd mp v1 v2 be se ta fs = some R := hf
    exact B_X7_works_49 C0 (fun v0 v1 v2 h => ih v0 v1 v2 R h hq) hq hf
set_option maxHeartbeats 4000000 in
set_option maxRecDepth 100000 in
theorem B_X7_works_0 {p : Program} {l : Launch} {e : Env} {s : State} {m : MethodId} {args : Array Value} {below : List Frame} {meth : Method} {c : Code} {A : Nat → Prop} {dC : Nat → ClassId} {dI : Nat → Nat → Nat} {cI cJ cZ : ClassId} {bM b0 b1 b2 b3 b4 b5 : Nat} (C0 : q_C p s m args meth c (dC, dI) (q_T cI cJ cZ) A RX7 wsX7_works cX7_works 12 none) {x1 : Int32} {th : Int32} {tc : Int64} {mr : (Nat → Int32)} {pd : Int32} {mp : (Nat → Int32)} {ch : (Nat → Int64)} {la : (Nat → Int64)} {be : Int64} {se : (Nat → Int64)} {ta : (Nat → Int32)} {fs : Int32} {R : (Nat → Int64) × (Nat → Int64) × Int64} (hf : f_X7_works x1 th tc mr pd mp ch la be se ta fs = some R) : ∀ (H : Heap) (locs : List Loc) (ls : Array Slot), va_P (dC, dI) vwCl [(bM, .inr (7, [.int th, .long tc, .ref b0, .int pd, .ref b1, .ref b2, .ref b3, .long be, .ref b4, .ref b5, .int fs])), (b0, .inl (cI, 7, .inl mr)), (b1, .inl (cI, 400, .inl mp)), (b2, .inl (cJ, 49, .inr (.inl ch))), (b3, .inl (cJ, 49, .inr (.inl la))), (b4, .inl (cJ, 128, .inr (.inl se))), (b5, .inl (cI, 13, .inl ta))] H → va_D A [(bM, .inr (7, [.int th, .long tc, .ref b0, .int pd, .ref b1, .ref b2, .ref b3, .long be, .ref b4, .ref b5, .int fs])), (b0, .inl (cI, 7, .inl mr)), (b1, .inl (cI, 400, .inl mp)), (b2, .inl (cJ, 49, .inr (.inl ch))), (b3, .inl (cJ, 49, .inr (.inl la))), (b4, .inl (cJ, 128, .inr (.inl se))), (b5, .inl (cI, 13, .inl ta))] → va_S A s.heap H locs → lv_has ls 12 [(0, .ref bM), (1, .int x1)] → W p l e rmX7_works s m args below meth c H locs 0 0 (MQ below (qV (dC, dI) (q_T cI cJ cZ) [(bM, .inr (7, [.int th, .long tc, .ref b0, .int pd, .ref b1, .ref b2, .ref b3, .long R.2.2, .ref b4, .ref b5, .int fs])), (b0, .inl (cI, 7, .inl mr)), (b1, .inl (cI, 400, .inl mp)), (b2, .inl (cJ, 49, .inr (.inl R.1))), (b3, .inl (cJ, 49, .inr (.inl R.2.1))), (b4, .inl (cJ, 128, .inr (.inl se))), (b5, .inl (cI, 13, .inl ta))] A) args s 0 0 A) (F0 m 0 ls []) := by
  obtain ⟨hx, hb, hml, hown, hts, hrt, hlk, hK, hX, hA⟩ := id C0
  intro H locs ls hP hD hS hl
  unfold f_X7_works at hf
  refine lv_aload_n hx hb dX7_works_0 rfl (lv_at hl 0 rfl) ?_
  refine q_get (TT := TX7) C0 in_X7_works_X7 2 m_X7_works_f7 hP 0 rfl rfl (by decide) rfl rfl dX7_works_1 ?_
  refine lv_iconst (v := 2) hx hb dX7_works_4 (by decide) ?_
  refine q_iald (v := mr 2) C0 hP 1 0 rfl rfl (by unfold vp_in; decide) rfl dX7_works_5 ?_
  refine lv_istore_n (lv' := [(2, .int (mr 2)), (0, .ref bM), (1, .int x1)]) hx hb dX7_works_6 rfl hl (by decide) rfl (fun ls hl => ?_)
  refine lv_aload_n hx hb dX7_works_7 rfl (lv_at hl 1 rfl) ?_
  refine q_get (TT := TX7) C0 in_X7_works_X7 2 m_X7_works_f7 hP 0 rfl rfl (by decide) rfl rfl dX7_works_8 ?_
  refine lv_iload_n hx hb dX7_works_11 rfl (lv_at hl 2 rfl) ?_
  obtain ⟨hin33, hf⟩ := q_gd hf
  refine q_iald (v := mr (Int32.toNatClampNeg x1)) C0 hP 1 0 rfl rfl hin33 rfl dX7_works_12 ?_
  refine lv_istore_n (lv' := [(3, .int (mr (Int32.toNatClampNeg x1))), (2, .int (mr 2)), (0, .ref bM), (1, .int x1)]) hx hb dX7_works_13 rfl hl (by decide) rfl (fun ls hl => ?_)
  refine lv_bipush (v := 10) hx hb dX7_works_14 (by decide) ?_
  refine lv_iload_n hx hb dX7_works_16 rfl (lv_at hl 0 rfl) ?_
  refine lv_isub hx hb dX7_works_17 ?_
  refine lv_istore (lv' := [(4, .int (10 - (mr (Int32.toNatClampNeg x1)))), (3, .int (mr (Int32.toNatClampNeg x1))), (2, .int (mr 2)), (0, .ref bM), (1, .int x1)]) hx hb dX7_works_18 hl (by decide) rfl (fun ls hl => ?_)
  refine lv_iload_n hx hb dX7_works_20 rfl (lv_at hl 1 rfl) ?_
  refine lv_iload_n hx hb dX7_works_21 rfl (lv_at hl 1 rfl) ?_
  refine lv_imul hx hb dX7_works_22 ?_
  refine lv_iload hx hb dX7_works_23 (lv_at hl 0 rfl) ?_
  refine lv_iload hx hb dX7_works_25 (lv_at hl 0 rfl) ?_
  refine lv_imul hx hb dX7_works_27 ?_
  refine lv_iadd hx hb dX7_works_28 ?_
  refine lv_i2l (v := Int32.toInt64 (((mr (Int32.toNatClampNeg x1)) * (mr (Int32.toNatClampNeg x1))) + ((10 - (mr (Int32.toNatClampNeg x1))) * (10 - (mr (Int32.toNatClampNeg x1)))))) hx hb dX7_works_29 rfl ?_
  refine lv_lstore (lv' := [(5, .long (Int32.toInt64 (((mr (Int32.toNatClampNeg x1)) * (mr (Int32.toNatClampNeg x1))) + ((10 - (mr (Int32.toNatClampNeg x1))) * (10 - (mr (Int32.toNatClampNeg x1))))))), (4, .int (10 - (mr (Int32.toNatClampNeg x1)))), (3, .int (mr (Int32.toNatClampNeg x1))), (2, .int (mr 2)), (0, .ref bM), (1, .int x1)]) hx hb dX7_works_30 hl (by decide) rfl (fun ls hl => ?_)
  refine lv_aload_n hx hb dX7_works_32 rfl (lv_at hl 4 rfl) ?_
  refine lv_ldc2 hx hb hown (hts _ m_X7_works_k59) dX7_works_33 ?_
  refine lv_lload hx hb dX7_works_36 (lv_at hl 0 rfl) ?_
  refine lv_lmul hx hb dX7_works_38 ?_
  refine q_put (ty := .long) (TT := TX7) C0 in_X7_works_X7 tyX7 tyX7_ok nmX7 7 m_X7_works_f61 hP hD hS 0 rfl rfl (by decide) rfl rfl (by decide +kernel) rfl rfl (Nat.le_of_ble_eq_true rfl) dX7_works_39 (fun H locs hP hD hS => ?_)
  have hP : va_P (dC, dI) vwCl [(bM, .inr (7, [.int th, .long tc, .ref b0, .int pd, .ref b1, .ref b2, .ref b3, .long ((1000000000 : Int64) * (Int32.toInt64 (((mr (Int32.toNatClampNeg x1)) * (mr (Int32.toNatClampNeg x1))) + ((10 - (mr (Int32.toNatClampNeg x1))) * (10 - (mr (Int32.toNatClampNeg x1))))))), .ref b4, .ref b5, .int fs])), (b0, .inl (cI, 7, .inl mr)), (b1, .inl (cI, 400, .inl mp)), (b2, .inl (cJ, 49, .inr (.inl ch))), (b3, .inl (cJ, 49, .inr (.inl la))), (b4, .inl (cJ, 128, .inr (.inl se))), (b5, .inl (cI, 13, .inl ta))] H := hP
  have hD : va_D A [(bM, .inr (7, [.int th, .long tc, .ref b0, .int pd, .ref b1, .ref b2, .ref b3, .long ((1000000000 : Int64) * (Int32.toInt64 (((mr (Int32.toNatClampNeg x1)) * (mr (Int32.toNatClampNeg x1))) + ((10 - (mr (Int32.toNatClampNeg x1))) * (10 - (mr (Int32.toNatClampNeg x1))))))), .ref b4, .ref b5, .int fs])), (b0, .inl (cI, 7, .inl mr)), (b1, .inl (cI, 400, .inl mp)), (b2, .inl (cJ, 49, .inr (.inl ch))), (b3, .inl (cJ, 49, .inr (.inl la))), (b4, .inl (cJ, 128, .inr (.inl se))), (b5, .inl (cI, 13, .inl ta))] := hD
  refine lv_iconst (v := 2) hx hb dX7_works_42 (by decide) ?_
  refine lv_iload_n hx hb dX7_works_43 rfl (lv_at hl 3 rfl) ?_
  refine lv_imul hx hb dX7_works_44 ?_
  refine lv_iconst (v := 2) hx hb dX7_works_45 (by decide) ?_
  refine lv_iadd hx hb dX7_works_46 ?_
  refine lv_istore (lv' := [(7, .int ((2 * (mr 2)) + 2)), (5, .long (Int32.toInt64 (((mr (Int32.toNatClampNeg x1)) * (mr (Int32.toNatClampNeg x1))) + ((10 - (mr (Int32.toNatClampNeg x1))) * (10 - (mr (Int32.toNatClampNeg x1))))))), (4, .int (10 - (mr (Int32.toNatClampNeg x1)))), (3, .int (mr (Int32.toNatClampNeg x1))), (2, .int (mr 2)), (0, .ref bM), (1, .int x1)]) hx hb dX7_works_47 hl (by decide) rfl (fun ls hl => ?_)
  obtain ⟨y34, y35, y36, hg37, hf⟩ := q_e3 hf
  refine L_X7_works_49 C0 1000 _ _ _ _ hg37 ?_ H locs ls hP hD hS (lv_sub hl [5, 4, 3, 2, 1, 0] rfl)
  intro H locs ls hP hD hS hl
  have hP : va_P (dC, dI) vwCl [(bM, .inr (7, [.int th, .long tc, .ref b0, .int pd, .ref b1, .ref b2, .ref b3, .long ((1000000000 : Int64) * (Int32.toInt64 (((mr (Int32.toNatClampNeg x1)) * (mr (Int32.toNatClampNeg x1))) + ((10 - (mr (Int32.toNatClampNeg x1))) * (10 - (mr (Int32.toNatClampNeg x1))))))), .ref b4, .ref b5, .int fs])), (b0, .inl (cI, 7, .inl mr)), (b1, .inl (cI, 400, .inl mp)), (b2, .inl (cJ, 49, .inr (.inl y35))), (b3, .inl (cJ, 49, .inr (.inl y36))), (b4, .inl (cJ, 128, .inr (.inl se))), (b5, .inl (cI, 13, .inl ta))] H := hP
  have hD : va_D A [(bM, .inr (7, [.int th, .long tc, .ref b0, .int pd, .ref b1, .ref b2, .ref b3, .long ((1000000000 : Int64) * (Int32.toInt64 (((mr (Int32.toNatClampNeg x1)) * (mr (Int32.toNatClampNeg x1))) + ((10 - (mr (Int32.toNatClampNeg x1))) * (10 - (mr (Int32.toNatClampNeg x1))))))), .ref b4, .ref b5, .int fs])), (b0, .inl (cI, 7, .inl mr)), (b1, .inl (cI, 400, .inl mp)), (b2, .inl (cJ, 49, .inr (.inl y35))), (b3, .inl (cJ, 49, .inr (.inl y36))), (b4, .inl (cJ, 128, .inr (.inl se))), (b5, .inl (cI, 13, .inl ta))] := hD
  have hl : lv_has ls 12 [] := hl
  obtain rfl := Option.some.inj hf
  exact q_retV C0 hP hD hS dX7_works_393
set_option maxHeartbeats 4000000 in
set_option maxRecDepth 100000 in
theorem c_X7_works {l : Launch} {dC : Nat → ClassId} {dI : Nat → Nat → Nat} {cI cJ cZ : ClassId} {bM b0 b1 b2 b3 b4 b5 : Nat} {x1 : Int32} {th : Int32} {tc : Int64} {mr : (Nat → Int32)} {pd : Int32} {mp : (Nat → Int32)} {ch : (Nat → Int64)} {la : (Nat → Int64)} {be : Int64} {se : (Nat → Int64)} {ta : (Nat → Int32)} {fs : Int32} {R : (Nat → Int64) × (Nat → Int64) × Int64} (hf : f_X7_works x1 th tc mr pd mp ch la be se ta fs = some R) : q_M l yX7_works wsX7_works rmX7_works (dC, dI) (q_T cI cJ cZ) [.ref bM, .int x1] [(bM, .inr (7, [.int th, .long tc, .ref b0, .int pd, .ref b1, .ref b2, .ref b3, .long be, .ref b4, .ref b5, .int fs])), (b0, .inl (cI, 7, .inl mr)), (b1, .inl (cI, 400, .inl mp)), (b2, .inl (cJ, 49, .inr (.inl ch))), (b3, .inl (cJ, 49, .inr (.inl la))), (b4, .inl (cJ, 128, .inr (.inl se))), (b5, .inl (cI, 13, .inl ta))] (qV (dC, dI) (q_T cI cJ cZ) [(bM, .inr (7, [.int th, .long tc, .ref b0, .int pd, .ref b1, .ref b2, .ref b3, .long R.2.2, .ref b4, .ref b5, .int fs])), (b0, .inl (cI, 7, .inl mr)), (b1, .inl (cI, 400, .inl mp)), (b2, .inl (cJ, 49, .inr (.inl R.1))), (b3, .inl (cJ, 49, .inr (.inl R.2.1))), (b4, .inl (cJ, 128, .inr (.inl se))), (b5, .inl (cI, 13, .inl ta))]) := by
  refine q_body (cc := cX7_works) (maxL := 12) (ret := none) (by decide) rfl (Nat.le_of_ble_eq_true rfl) ?_
  intro p e s m args below meth c A C0 ls hP hD hS hl
  have hl : lv_has ls 12 [(0, .ref bM), (1, .int x1)] := hl
  exact B_X7_works_0 C0 hf s.heap [] ls hP hD hS hl
/-! ## RungPlayModel.common -/
abbrev rmX7_common : Room := { frames := 0, cells := 0, slots := 0, locals := 0 }
noncomputable def b_X7_common_6 (k : (Int64 × Int64) → Option (Int64 × Int64)) (x4 : Int64) (x6 : Int64) : Option (Int64 × Int64) :=
  (if (lg_cmp x6 (0 : Int64)) = 0 then (some (x4, x6)) else (if x6 = 0 then none else (k (x6, x4 - x4 / x6 * x6))))
noncomputable def l_X7_common_6  (n : Nat) : (Int64 × Int64) → Option (Int64 × Int64) :=
  Nat.rec (fun _ => none) (fun _ k q => b_X7_common_6 k q.1 q.2) n
noncomputable def f_X7_common (x0 : Int64) (x2 : Int64) : Option (Int64) :=
  (q_b2 (l_X7_common_6  1000 (x0, x2)) (fun y3 y4 => (some y3)))
set_option maxHeartbeats 4000000 in
set_option maxRecDepth 100000 in
theorem B_X7_common_6 {p : Program} {l : Launch} {e : Env} {s : State} {m : MethodId} {args : Array Value} {below : List Frame} {meth : Method} {c : Code} {A : Nat → Prop} {dC : Nat → ClassId} {dI : Nat → Nat → Nat} {cI cJ cZ : ClassId} (C0 : q_C p s m args meth c (dC, dI) (q_T cI cJ cZ) A RX7 wsX7_common cX7_common 10 (some .long)) {Q : State → Prop} {k : (Int64 × Int64) → Option (Int64 × Int64)} {x4 : Int64} {x6 : Int64} {R : Int64 × Int64} (hk : ∀ (v0 : Int64) (v1 : Int64), k (v0, v1) = some R → ∀ (H : Heap) (locs : List Loc) (ls : Array Slot), va_P (dC, dI) vwCl [] H → va_D A [] → va_S A s.heap H locs → lv_has ls 10 [(4, .long v0), (6, .long v1)] → W p l e rmX7_common s m args below meth c H locs 0 0 Q (F0 m 6 ls [])) (hq : ∀ (H : Heap) (locs : List Loc) (ls : Array Slot), va_P (dC, dI) vwCl [] H → va_D A [] → va_S A s.heap H locs → lv_has ls 10 [(4, .long R.1)] → W p l e rmX7_common s m args below meth c H locs 0 0 Q (F0 m 31 ls [])) (hf : b_X7_common_6 k x4 x6 = some R) : ∀ (H : Heap) (locs : List Loc) (ls : Array Slot), va_P (dC, dI) vwCl [] H → va_D A [] → va_S A s.heap H locs → lv_has ls 10 [(4, .long x4), (6, .long x6)] → W p l e rmX7_common s m args below meth c H locs 0 0 Q (F0 m 6 ls []) := by
  obtain ⟨hx, hb, hml, hown, hts, hrt, hlk, hK, hX, hA⟩ := id C0
  intro H locs ls hP hD hS hl
  unfold b_X7_common_6 at hf
  refine lv_lload hx hb dX7_common_6 (lv_at hl 1 rfl) ?_
  refine lv_lconst (v := 0) hx hb dX7_common_8 (by decide) ?_
  refine W.lcmp hx hb dX7_common_9 ?_
  refine lv_if_eq (tgt := 31) hx hb dX7_common_10 (by decide) (fun hc1 => ?_) (fun hc1 => ?_)
  · have hf := q_if hf hc1
    obtain rfl := Option.some.inj hf
    exact hq H locs ls hP hD hS (lv_sub hl [0] rfl)
  · have hf := q_nif hf hc1
    refine lv_lload hx hb dX7_common_13 (lv_at hl 0 rfl) ?_
    refine lv_lload hx hb dX7_common_15 (lv_at hl 1 rfl) ?_
    obtain ⟨hne2, hf⟩ := q_gd hf
    refine lv_lrem hx hb dX7_common_17 hne2 ?_
    refine lv_lstore (lv' := [(8, .long (x4 - x4 / x6 * x6)), (4, .long x4), (6, .long x6)]) hx hb dX7_common_18 hl (by decide) rfl (fun ls hl => ?_)
    refine lv_lload hx hb dX7_common_20 (lv_at hl 2 rfl) ?_
    refine lv_lstore (lv' := [(4, .long x6), (8, .long (x4 - x4 / x6 * x6)), (6, .long x6)]) hx hb dX7_common_22 hl (by decide) rfl (fun ls hl => ?_)
    refine lv_lload hx hb dX7_common_24 (lv_at hl 1 rfl) ?_
    refine lv_lstore (lv' := [(6, .long (x4 - x4 / x6 * x6)), (4, .long x6), (8, .long (x4 - x4 / x6 * x6))]) hx hb dX7_common_26 hl (by decide) rfl (fun ls hl => ?_)
    refine lv_goto (tgt := 6) hx hb dX7_common_28 (by decide) ?_
    exact hk _ _ hf H locs ls hP hD hS (lv_sub hl [1, 0] rfl)
set_option maxHeartbeats 4000000 in
set_option maxRecDepth 100000 in
theorem L_X7_common_6 {p : Program} {l : Launch} {e : Env} {s : State} {m : MethodId} {args : Array Value} {below : List Frame} {meth : Method} {c : Code} {A : Nat → Prop} {dC : Nat → ClassId} {dI : Nat → Nat → Nat} {cI cJ cZ : ClassId} (C0 : q_C p s m args meth c (dC, dI) (q_T cI cJ cZ) A RX7 wsX7_common cX7_common 10 (some .long)) {Q : State → Prop}  : ∀ (n : Nat) (v0 : Int64) (v1 : Int64) (R : Int64 × Int64), l_X7_common_6  n (v0, v1) = some R → (∀ (H : Heap) (locs : List Loc) (ls : Array Slot), va_P (dC, dI) vwCl [] H → va_D A [] → va_S A s.heap H locs → lv_has ls 10 [(4, .long R.1)] → W p l e rmX7_common s m args below meth c H locs 0 0 Q (F0 m 31 ls [])) → ∀ (H : Heap) (locs : List Loc) (ls : Array Slot), va_P (dC, dI) vwCl [] H → va_D A [] → va_S A s.heap H locs → lv_has ls 10 [(4, .long v0), (6, .long v1)] → W p l e rmX7_common s m args below meth c H locs 0 0 Q (F0 m 6 ls []) := by
  intro n
  induction n with
  | zero =>
    intro v0 v1 R hf
    have hf : (none : Option (Int64 × Int64)) = some R := hf
    cases hf
  | succ n ih =>
    intro v0 v1 R hf hq
    have hf : b_X7_common_6 (l_X7_common_6  n) v0 v1 = some R := hf
    exact B_X7_common_6 C0 (fun v0 v1 h => ih v0 v1 R h hq) hq hf
set_option maxHeartbeats 4000000 in
set_option maxRecDepth 100000 in
theorem B_X7_common_0 {p : Program} {l : Launch} {e : Env} {s : State} {m : MethodId} {args : Array Value} {below : List Frame} {meth : Method} {c : Code} {A : Nat → Prop} {dC : Nat → ClassId} {dI : Nat → Nat → Nat} {cI cJ cZ : ClassId} (C0 : q_C p s m args meth c (dC, dI) (q_T cI cJ cZ) A RX7 wsX7_common cX7_common 10 (some .long)) {x0 : Int64} {x2 : Int64} {R : Int64} (hf : f_X7_common x0 x2 = some R) : ∀ (H : Heap) (locs : List Loc) (ls : Array Slot), va_P (dC, dI) vwCl [] H → va_D A [] → va_S A s.heap H locs → lv_has ls 10 [(0, .long x0), (2, .long x2)] → W p l e rmX7_common s m args below meth c H locs 0 0 (MQ below (qL (dC, dI) (q_T cI cJ cZ) [] R A) args s 0 0 A) (F0 m 0 ls []) := by
  obtain ⟨hx, hb, hml, hown, hts, hrt, hlk, hK, hX, hA⟩ := id C0
  intro H locs ls hP hD hS hl
  unfold f_X7_common at hf
  refine lv_lload_n hx hb dX7_common_0 rfl (lv_at hl 0 rfl) ?_
  refine lv_lstore (lv' := [(4, .long x0), (0, .long x0), (2, .long x2)]) hx hb dX7_common_1 hl (by decide) rfl (fun ls hl => ?_)
  refine lv_lload_n hx hb dX7_common_3 rfl (lv_at hl 2 rfl) ?_
  refine lv_lstore (lv' := [(6, .long x2), (4, .long x0), (0, .long x0), (2, .long x2)]) hx hb dX7_common_4 hl (by decide) rfl (fun ls hl => ?_)
  obtain ⟨y3, y4, hg5, hf⟩ := q_e2 hf
  refine L_X7_common_6 C0 1000 _ _ _ hg5 ?_ H locs ls hP hD hS (lv_sub hl [1, 0] rfl)
  intro H locs ls hP hD hS hl
  have hP : va_P (dC, dI) vwCl [] H := hP
  have hD : va_D A [] := hD
  have hl : lv_has ls 10 [(4, .long y3)] := hl
  refine lv_lload hx hb dX7_common_31 (lv_at hl 0 rfl) ?_
  obtain rfl := Option.some.inj hf
  exact q_retL C0 hP hD hS dX7_common_33
set_option maxHeartbeats 4000000 in
set_option maxRecDepth 100000 in
theorem c_X7_common {l : Launch} {dC : Nat → ClassId} {dI : Nat → Nat → Nat} {cI cJ cZ : ClassId} {x0 : Int64} {x2 : Int64} {R : Int64} (hf : f_X7_common x0 x2 = some R) : q_M l yX7_common wsX7_common rmX7_common (dC, dI) (q_T cI cJ cZ) [.long x0, .long x2] [] (qL (dC, dI) (q_T cI cJ cZ) [] R) := by
  refine q_body (cc := cX7_common) (maxL := 10) (ret := (some .long)) (by decide) rfl (Nat.le_of_ble_eq_true rfl) ?_
  intro p e s m args below meth c A C0 ls hP hD hS hl
  have hl : lv_has ls 10 [(0, .long x0), (2, .long x2)] := hl
  exact B_X7_common_0 C0 hf s.heap [] ls hP hD hS hl
/-! ## RungPlayModel.part -/
abbrev rmX7_part : Room := { frames := 1, cells := 0, slots := 0, locals := 29 }
theorem m_X7_part_f61 : Cond.fieldLink RX7 61 RX7 "below" "J" ∈ wsX7_part := by decide +kernel
theorem in_X7_part_X7 : ∀ w ∈ wsX70, w ∈ wsX7_part := by decide +kernel
noncomputable def f_X7_part (x1 : Int64) (x3 : Int32) (th : Int32) (tc : Int64) (mr : (Nat → Int32)) (pd : Int32) (mp : (Nat → Int32)) (ch : (Nat → Int64)) (la : (Nat → Int64)) (be : Int64) (se : (Nat → Int64)) (ta : (Nat → Int32)) (fs : Int32) : Option (Int64) :=
  (q_b1 (f_X7_common x1 be) (fun r1 => (if x3 = 0 then (if r1 = 0 then none else (some (x1 / r1))) else (if r1 = 0 then none else (some (be / r1))))))
set_option maxHeartbeats 4000000 in
set_option maxRecDepth 100000 in
theorem B_X7_part_0 {p : Program} {l : Launch} {e : Env} {s : State} {m : MethodId} {args : Array Value} {below : List Frame} {meth : Method} {c : Code} {A : Nat → Prop} {dC : Nat → ClassId} {dI : Nat → Nat → Nat} {cI cJ cZ : ClassId} {bM b0 b1 b2 b3 b4 b5 : Nat} (C0 : q_C p s m args meth c (dC, dI) (q_T cI cJ cZ) A RX7 wsX7_part cX7_part 6 (some .long)) {x1 : Int64} {x3 : Int32} {th : Int32} {tc : Int64} {mr : (Nat → Int32)} {pd : Int32} {mp : (Nat → Int32)} {ch : (Nat → Int64)} {la : (Nat → Int64)} {be : Int64} {se : (Nat → Int64)} {ta : (Nat → Int32)} {fs : Int32} {R : Int64} (hf : f_X7_part x1 x3 th tc mr pd mp ch la be se ta fs = some R) : ∀ (H : Heap) (locs : List Loc) (ls : Array Slot), va_P (dC, dI) vwCl [(bM, .inr (7, [.int th, .long tc, .ref b0, .int pd, .ref b1, .ref b2, .ref b3, .long be, .ref b4, .ref b5, .int fs])), (b0, .inl (cI, 7, .inl mr)), (b1, .inl (cI, 400, .inl mp)), (b2, .inl (cJ, 49, .inr (.inl ch))), (b3, .inl (cJ, 49, .inr (.inl la))), (b4, .inl (cJ, 128, .inr (.inl se))), (b5, .inl (cI, 13, .inl ta))] H → va_D A [(bM, .inr (7, [.int th, .long tc, .ref b0, .int pd, .ref b1, .ref b2, .ref b3, .long be, .ref b4, .ref b5, .int fs])), (b0, .inl (cI, 7, .inl mr)), (b1, .inl (cI, 400, .inl mp)), (b2, .inl (cJ, 49, .inr (.inl ch))), (b3, .inl (cJ, 49, .inr (.inl la))), (b4, .inl (cJ, 128, .inr (.inl se))), (b5, .inl (cI, 13, .inl ta))] → va_S A s.heap H locs → lv_has ls 6 [(0, .ref bM), (1, .long x1), (3, .int x3)] → W p l e rmX7_part s m args below meth c H locs 0 0 (MQ below (qL (dC, dI) (q_T cI cJ cZ) [(bM, .inr (7, [.int th, .long tc, .ref b0, .int pd, .ref b1, .ref b2, .ref b3, .long be, .ref b4, .ref b5, .int fs])), (b0, .inl (cI, 7, .inl mr)), (b1, .inl (cI, 400, .inl mp)), (b2, .inl (cJ, 49, .inr (.inl ch))), (b3, .inl (cJ, 49, .inr (.inl la))), (b4, .inl (cJ, 128, .inr (.inl se))), (b5, .inl (cI, 13, .inl ta))] R A) args s 0 0 A) (F0 m 0 ls []) := by
  obtain ⟨hx, hb, hml, hown, hts, hrt, hlk, hK, hX, hA⟩ := id C0
  intro H locs ls hP hD hS hl
  unfold f_X7_part at hf
  refine lv_lload_n hx hb dX7_part_0 rfl (lv_at hl 1 rfl) ?_
  refine lv_aload_n hx hb dX7_part_1 rfl (lv_at hl 0 rfl) ?_
  refine q_get (TT := TX7) C0 in_X7_part_X7 7 m_X7_part_f61 hP 0 rfl rfl (by decide) rfl rfl dX7_part_2 ?_
  obtain ⟨r1, hg2, hf⟩ := q_e1 hf
  refine q_endL (wc := []) (wr := [(bM, .inr (7, [.int th, .long tc, .ref b0, .int pd, .ref b1, .ref b2, .ref b3, .long be, .ref b4, .ref b5, .int fs])), (b0, .inl (cI, 7, .inl mr)), (b1, .inl (cI, 400, .inl mp)), (b2, .inl (cJ, 49, .inr (.inl ch))), (b3, .inl (cJ, 49, .inr (.inl la))), (b4, .inl (cJ, 128, .inr (.inl se))), (b5, .inl (cI, 13, .inl ta))]) (w1 := []) (rv := r1) C0 hP hD hS [] [0, 1, 2, 3, 4, 5, 6] rfl rfl (by decide) (by decide) (q_runS C0 (c_X7_common (l := l) hg2) (va_cwS 2 hts gX7_part_X7_common rfl rfl rfl (by decide +kernel) ⟨Nat.le_of_ble_eq_true rfl, Nat.le_of_ble_eq_true rfl⟩) hP hD hS [] rfl (by decide) rfl rfl hl.1 (Nat.le_of_ble_eq_true rfl) dX7_part_5) (fun H locs hP hD hS => ?_)
  have hP : va_P (dC, dI) vwCl [(bM, .inr (7, [.int th, .long tc, .ref b0, .int pd, .ref b1, .ref b2, .ref b3, .long be, .ref b4, .ref b5, .int fs])), (b0, .inl (cI, 7, .inl mr)), (b1, .inl (cI, 400, .inl mp)), (b2, .inl (cJ, 49, .inr (.inl ch))), (b3, .inl (cJ, 49, .inr (.inl la))), (b4, .inl (cJ, 128, .inr (.inl se))), (b5, .inl (cI, 13, .inl ta))] H := hP
  have hD : va_D A [(bM, .inr (7, [.int th, .long tc, .ref b0, .int pd, .ref b1, .ref b2, .ref b3, .long be, .ref b4, .ref b5, .int fs])), (b0, .inl (cI, 7, .inl mr)), (b1, .inl (cI, 400, .inl mp)), (b2, .inl (cJ, 49, .inr (.inl ch))), (b3, .inl (cJ, 49, .inr (.inl la))), (b4, .inl (cJ, 128, .inr (.inl se))), (b5, .inl (cI, 13, .inl ta))] := hD
  refine lv_lstore (lv' := [(4, .long r1), (0, .ref bM), (1, .long x1), (3, .int x3)]) hx hb dX7_part_8 hl (by decide) rfl (fun ls hl => ?_)
  refine lv_iload_n hx hb dX7_part_10 rfl (lv_at hl 3 rfl) ?_
  refine lv_if_ne (tgt := 21) hx hb dX7_part_11 (by decide) (fun hc3 => ?_) (fun hc3 => ?_)
  · have hf := q_nif hf hc3
    refine lv_aload_n hx hb dX7_part_21 rfl (lv_at hl 1 rfl) ?_
    refine q_get (TT := TX7) C0 in_X7_part_X7 7 m_X7_part_f61 hP 0 rfl rfl (by decide) rfl rfl dX7_part_22 ?_
    refine lv_lload hx hb dX7_part_25 (lv_at hl 0 rfl) ?_
    obtain ⟨hne4, hf⟩ := q_gd hf
    refine lv_ldiv hx hb dX7_part_27 hne4 ?_
    obtain rfl := Option.some.inj hf
    exact q_retL C0 hP hD hS dX7_part_28
  · have hf := q_if hf hc3
    refine lv_lload_n hx hb dX7_part_14 rfl (lv_at hl 2 rfl) ?_
    refine lv_lload hx hb dX7_part_15 (lv_at hl 0 rfl) ?_
    obtain ⟨hne5, hf⟩ := q_gd hf
    refine lv_ldiv hx hb dX7_part_17 hne5 ?_
    refine lv_goto (tgt := 28) hx hb dX7_part_18 (by decide) ?_
    obtain rfl := Option.some.inj hf
    exact q_retL C0 hP hD hS dX7_part_28
set_option maxHeartbeats 4000000 in
set_option maxRecDepth 100000 in
theorem c_X7_part {l : Launch} {dC : Nat → ClassId} {dI : Nat → Nat → Nat} {cI cJ cZ : ClassId} {bM b0 b1 b2 b3 b4 b5 : Nat} {x1 : Int64} {x3 : Int32} {th : Int32} {tc : Int64} {mr : (Nat → Int32)} {pd : Int32} {mp : (Nat → Int32)} {ch : (Nat → Int64)} {la : (Nat → Int64)} {be : Int64} {se : (Nat → Int64)} {ta : (Nat → Int32)} {fs : Int32} {R : Int64} (hf : f_X7_part x1 x3 th tc mr pd mp ch la be se ta fs = some R) : q_M l yX7_part wsX7_part rmX7_part (dC, dI) (q_T cI cJ cZ) [.ref bM, .long x1, .int x3] [(bM, .inr (7, [.int th, .long tc, .ref b0, .int pd, .ref b1, .ref b2, .ref b3, .long be, .ref b4, .ref b5, .int fs])), (b0, .inl (cI, 7, .inl mr)), (b1, .inl (cI, 400, .inl mp)), (b2, .inl (cJ, 49, .inr (.inl ch))), (b3, .inl (cJ, 49, .inr (.inl la))), (b4, .inl (cJ, 128, .inr (.inl se))), (b5, .inl (cI, 13, .inl ta))] (qL (dC, dI) (q_T cI cJ cZ) [(bM, .inr (7, [.int th, .long tc, .ref b0, .int pd, .ref b1, .ref b2, .ref b3, .long be, .ref b4, .ref b5, .int fs])), (b0, .inl (cI, 7, .inl mr)), (b1, .inl (cI, 400, .inl mp)), (b2, .inl (cJ, 49, .inr (.inl ch))), (b3, .inl (cJ, 49, .inr (.inl la))), (b4, .inl (cJ, 128, .inr (.inl se))), (b5, .inl (cI, 13, .inl ta))] R) := by
  refine q_body (cc := cX7_part) (maxL := 6) (ret := (some .long)) (by decide) rfl (Nat.le_of_ble_eq_true rfl) ?_
  intro p e s m args below meth c A C0 ls hP hD hS hl
  have hl : lv_has ls 6 [(0, .ref bM), (1, .long x1), (3, .int x3)] := hl
  exact B_X7_part_0 C0 hf s.heap [] ls hP hD hS hl
/-! ## RungPlayModel.isAsked -/
abbrev rmX7_isAsked : Room := { frames := 1, cells := 0, slots := 0, locals := 22 }
theorem m_X7_isAsked_f7 : Cond.fieldLink RX7 7 RX7 "rules" "[I" ∈ wsX7_isAsked := by decide +kernel
theorem in_X7_isAsked_X7 : ∀ w ∈ wsX70, w ∈ wsX7_isAsked := by decide +kernel
noncomputable def b_X7_isAsked_73 (th : Int32) (tc : Int64) (mr : (Nat → Int32)) (pd : Int32) (mp : (Nat → Int32)) (ch : (Nat → Int64)) (la : (Nat → Int64)) (be : Int64) (se : (Nat → Int64)) (ta : (Nat → Int32)) (fs : Int32) : Option (Int32) :=
  (some 0)
noncomputable def b_X7_isAsked_50 (x3 : Int32) (x4 : Int32) (th : Int32) (tc : Int64) (mr : (Nat → Int32)) (pd : Int32) (mp : (Nat → Int32)) (ch : (Nat → Int64)) (la : (Nat → Int64)) (be : Int64) (se : (Nat → Int64)) (ta : (Nat → Int32)) (fs : Int32) : Option (Int32) :=
  (q_b1 (f_X7_in x3 0 1) (fun r1 => (if r1 = 0 then (b_X7_isAsked_73 th tc mr pd mp ch la be se ta fs) else (q_b1 (f_X7_in x4 0 1) (fun r4 => (if r4 = 0 then (b_X7_isAsked_73 th tc mr pd mp ch la be se ta fs) else (some 1)))))))
noncomputable def f_X7_isAsked (x1 : Int32) (x2 : Int32) (x3 : Int32) (x4 : Int32) (th : Int32) (tc : Int64) (mr : (Nat → Int32)) (pd : Int32) (mp : (Nat → Int32)) (ch : (Nat → Int64)) (la : (Nat → Int64)) (be : Int64) (se : (Nat → Int64)) (ta : (Nat → Int32)) (fs : Int32) : Option (Int32) :=
  (q_b1 (f_X7_in x1 0 (mr 2)) (fun r7 => (if r7 = 0 then (b_X7_isAsked_73 th tc mr pd mp ch la be se ta fs) else (q_b1 (f_X7_in x2 0 (mr 2)) (fun r10 => (if r10 = 0 then (b_X7_isAsked_73 th tc mr pd mp ch la be se ta fs) else (if (mr 6) = 0 then (b_X7_isAsked_50 x3 x4 th tc mr pd mp ch la be se ta fs) else (if x1 < (mr 2) then (b_X7_isAsked_50 x3 x4 th tc mr pd mp ch la be se ta fs) else (if (mr 2) ≤ x2 then (b_X7_isAsked_73 th tc mr pd mp ch la be se ta fs) else (b_X7_isAsked_50 x3 x4 th tc mr pd mp ch la be se ta fs))))))))))
set_option maxHeartbeats 4000000 in
set_option maxRecDepth 100000 in
theorem B_X7_isAsked_73 {p : Program} {l : Launch} {e : Env} {s : State} {m : MethodId} {args : Array Value} {below : List Frame} {meth : Method} {c : Code} {A : Nat → Prop} {dC : Nat → ClassId} {dI : Nat → Nat → Nat} {cI cJ cZ : ClassId} {bM b0 b1 b2 b3 b4 b5 : Nat} (C0 : q_C p s m args meth c (dC, dI) (q_T cI cJ cZ) A RX7 wsX7_isAsked cX7_isAsked 6 (some .boolean)) {th : Int32} {tc : Int64} {mr : (Nat → Int32)} {pd : Int32} {mp : (Nat → Int32)} {ch : (Nat → Int64)} {la : (Nat → Int64)} {be : Int64} {se : (Nat → Int64)} {ta : (Nat → Int32)} {fs : Int32} {R : Int32} (hf : b_X7_isAsked_73 th tc mr pd mp ch la be se ta fs = some R) : ∀ (H : Heap) (locs : List Loc) (ls : Array Slot), va_P (dC, dI) vwCl [(bM, .inr (7, [.int th, .long tc, .ref b0, .int pd, .ref b1, .ref b2, .ref b3, .long be, .ref b4, .ref b5, .int fs])), (b0, .inl (cI, 7, .inl mr)), (b1, .inl (cI, 400, .inl mp)), (b2, .inl (cJ, 49, .inr (.inl ch))), (b3, .inl (cJ, 49, .inr (.inl la))), (b4, .inl (cJ, 128, .inr (.inl se))), (b5, .inl (cI, 13, .inl ta))] H → va_D A [(bM, .inr (7, [.int th, .long tc, .ref b0, .int pd, .ref b1, .ref b2, .ref b3, .long be, .ref b4, .ref b5, .int fs])), (b0, .inl (cI, 7, .inl mr)), (b1, .inl (cI, 400, .inl mp)), (b2, .inl (cJ, 49, .inr (.inl ch))), (b3, .inl (cJ, 49, .inr (.inl la))), (b4, .inl (cJ, 128, .inr (.inl se))), (b5, .inl (cI, 13, .inl ta))] → va_S A s.heap H locs → lv_has ls 6 [] → W p l e rmX7_isAsked s m args below meth c H locs 0 0 (MQ below (qI (dC, dI) (q_T cI cJ cZ) [(bM, .inr (7, [.int th, .long tc, .ref b0, .int pd, .ref b1, .ref b2, .ref b3, .long be, .ref b4, .ref b5, .int fs])), (b0, .inl (cI, 7, .inl mr)), (b1, .inl (cI, 400, .inl mp)), (b2, .inl (cJ, 49, .inr (.inl ch))), (b3, .inl (cJ, 49, .inr (.inl la))), (b4, .inl (cJ, 128, .inr (.inl se))), (b5, .inl (cI, 13, .inl ta))] R A) args s 0 0 A) (F0 m 73 ls []) := by
  obtain ⟨hx, hb, hml, hown, hts, hrt, hlk, hK, hX, hA⟩ := id C0
  intro H locs ls hP hD hS hl
  unfold b_X7_isAsked_73 at hf
  refine lv_iconst (v := 0) hx hb dX7_isAsked_73 (by decide) ?_
  obtain rfl := Option.some.inj hf
  exact q_retZ C0 (by rfl) hP hD hS dX7_isAsked_74
set_option maxHeartbeats 4000000 in
set_option maxRecDepth 100000 in
theorem B_X7_isAsked_50 {p : Program} {l : Launch} {e : Env} {s : State} {m : MethodId} {args : Array Value} {below : List Frame} {meth : Method} {c : Code} {A : Nat → Prop} {dC : Nat → ClassId} {dI : Nat → Nat → Nat} {cI cJ cZ : ClassId} {bM b0 b1 b2 b3 b4 b5 : Nat} (C0 : q_C p s m args meth c (dC, dI) (q_T cI cJ cZ) A RX7 wsX7_isAsked cX7_isAsked 6 (some .boolean)) {x3 : Int32} {x4 : Int32} {th : Int32} {tc : Int64} {mr : (Nat → Int32)} {pd : Int32} {mp : (Nat → Int32)} {ch : (Nat → Int64)} {la : (Nat → Int64)} {be : Int64} {se : (Nat → Int64)} {ta : (Nat → Int32)} {fs : Int32} {R : Int32} (hf : b_X7_isAsked_50 x3 x4 th tc mr pd mp ch la be se ta fs = some R) : ∀ (H : Heap) (locs : List Loc) (ls : Array Slot), va_P (dC, dI) vwCl [(bM, .inr (7, [.int th, .long tc, .ref b0, .int pd, .ref b1, .ref b2, .ref b3, .long be, .ref b4, .ref b5, .int fs])), (b0, .inl (cI, 7, .inl mr)), (b1, .inl (cI, 400, .inl mp)), (b2, .inl (cJ, 49, .inr (.inl ch))), (b3, .inl (cJ, 49, .inr (.inl la))), (b4, .inl (cJ, 128, .inr (.inl se))), (b5, .inl (cI, 13, .inl ta))] H → va_D A [(bM, .inr (7, [.int th, .long tc, .ref b0, .int pd, .ref b1, .ref b2, .ref b3, .long be, .ref b4, .ref b5, .int fs])), (b0, .inl (cI, 7, .inl mr)), (b1, .inl (cI, 400, .inl mp)), (b2, .inl (cJ, 49, .inr (.inl ch))), (b3, .inl (cJ, 49, .inr (.inl la))), (b4, .inl (cJ, 128, .inr (.inl se))), (b5, .inl (cI, 13, .inl ta))] → va_S A s.heap H locs → lv_has ls 6 [(3, .int x3), (4, .int x4)] → W p l e rmX7_isAsked s m args below meth c H locs 0 0 (MQ below (qI (dC, dI) (q_T cI cJ cZ) [(bM, .inr (7, [.int th, .long tc, .ref b0, .int pd, .ref b1, .ref b2, .ref b3, .long be, .ref b4, .ref b5, .int fs])), (b0, .inl (cI, 7, .inl mr)), (b1, .inl (cI, 400, .inl mp)), (b2, .inl (cJ, 49, .inr (.inl ch))), (b3, .inl (cJ, 49, .inr (.inl la))), (b4, .inl (cJ, 128, .inr (.inl se))), (b5, .inl (cI, 13, .inl ta))] R A) args s 0 0 A) (F0 m 50 ls []) := by
  obtain ⟨hx, hb, hml, hown, hts, hrt, hlk, hK, hX, hA⟩ := id C0
  intro H locs ls hP hD hS hl
  unfold b_X7_isAsked_50 at hf
  refine lv_iload_n hx hb dX7_isAsked_50 rfl (lv_at hl 0 rfl) ?_
  refine lv_iconst (v := 0) hx hb dX7_isAsked_51 (by decide) ?_
  refine lv_iconst (v := 1) hx hb dX7_isAsked_52 (by decide) ?_
  obtain ⟨r1, hg2, hf⟩ := q_e1 hf
  refine q_endI (wc := []) (wr := [(bM, .inr (7, [.int th, .long tc, .ref b0, .int pd, .ref b1, .ref b2, .ref b3, .long be, .ref b4, .ref b5, .int fs])), (b0, .inl (cI, 7, .inl mr)), (b1, .inl (cI, 400, .inl mp)), (b2, .inl (cJ, 49, .inr (.inl ch))), (b3, .inl (cJ, 49, .inr (.inl la))), (b4, .inl (cJ, 128, .inr (.inl se))), (b5, .inl (cI, 13, .inl ta))]) (w1 := []) (rv := r1) C0 hP hD hS [] [0, 1, 2, 3, 4, 5, 6] rfl rfl (by decide) (by decide) (q_runS C0 (c_X7_in (l := l) hg2) (va_cwS 3 hts gX7_isAsked_X7_in rfl rfl rfl (by decide +kernel) ⟨Nat.le_of_ble_eq_true rfl, Nat.le_of_ble_eq_true rfl⟩) hP hD hS [] rfl (by decide) rfl rfl hl.1 (Nat.le_of_ble_eq_true rfl) dX7_isAsked_53) (fun H locs hP hD hS => ?_)
  have hP : va_P (dC, dI) vwCl [(bM, .inr (7, [.int th, .long tc, .ref b0, .int pd, .ref b1, .ref b2, .ref b3, .long be, .ref b4, .ref b5, .int fs])), (b0, .inl (cI, 7, .inl mr)), (b1, .inl (cI, 400, .inl mp)), (b2, .inl (cJ, 49, .inr (.inl ch))), (b3, .inl (cJ, 49, .inr (.inl la))), (b4, .inl (cJ, 128, .inr (.inl se))), (b5, .inl (cI, 13, .inl ta))] H := hP
  have hD : va_D A [(bM, .inr (7, [.int th, .long tc, .ref b0, .int pd, .ref b1, .ref b2, .ref b3, .long be, .ref b4, .ref b5, .int fs])), (b0, .inl (cI, 7, .inl mr)), (b1, .inl (cI, 400, .inl mp)), (b2, .inl (cJ, 49, .inr (.inl ch))), (b3, .inl (cJ, 49, .inr (.inl la))), (b4, .inl (cJ, 128, .inr (.inl se))), (b5, .inl (cI, 13, .inl ta))] := hD
  refine lv_if_eq (tgt := 73) hx hb dX7_isAsked_56 (by decide) (fun hc3 => ?_) (fun hc3 => ?_)
  · have hf := q_if hf hc3
    exact B_X7_isAsked_73 C0 hf H locs ls hP hD hS (lv_sub hl [] rfl)
  · have hf := q_nif hf hc3
    refine lv_iload hx hb dX7_isAsked_59 (lv_at hl 1 rfl) ?_
    refine lv_iconst (v := 0) hx hb dX7_isAsked_61 (by decide) ?_
    refine lv_iconst (v := 1) hx hb dX7_isAsked_62 (by decide) ?_
    obtain ⟨r4, hg5, hf⟩ := q_e1 hf
    refine q_endI (wc := []) (wr := [(bM, .inr (7, [.int th, .long tc, .ref b0, .int pd, .ref b1, .ref b2, .ref b3, .long be, .ref b4, .ref b5, .int fs])), (b0, .inl (cI, 7, .inl mr)), (b1, .inl (cI, 400, .inl mp)), (b2, .inl (cJ, 49, .inr (.inl ch))), (b3, .inl (cJ, 49, .inr (.inl la))), (b4, .inl (cJ, 128, .inr (.inl se))), (b5, .inl (cI, 13, .inl ta))]) (w1 := []) (rv := r4) C0 hP hD hS [] [0, 1, 2, 3, 4, 5, 6] rfl rfl (by decide) (by decide) (q_runS C0 (c_X7_in (l := l) hg5) (va_cwS 3 hts gX7_isAsked_X7_in rfl rfl rfl (by decide +kernel) ⟨Nat.le_of_ble_eq_true rfl, Nat.le_of_ble_eq_true rfl⟩) hP hD hS [] rfl (by decide) rfl rfl hl.1 (Nat.le_of_ble_eq_true rfl) dX7_isAsked_63) (fun H locs hP hD hS => ?_)
    have hP : va_P (dC, dI) vwCl [(bM, .inr (7, [.int th, .long tc, .ref b0, .int pd, .ref b1, .ref b2, .ref b3, .long be, .ref b4, .ref b5, .int fs])), (b0, .inl (cI, 7, .inl mr)), (b1, .inl (cI, 400, .inl mp)), (b2, .inl (cJ, 49, .inr (.inl ch))), (b3, .inl (cJ, 49, .inr (.inl la))), (b4, .inl (cJ, 128, .inr (.inl se))), (b5, .inl (cI, 13, .inl ta))] H := hP
    have hD : va_D A [(bM, .inr (7, [.int th, .long tc, .ref b0, .int pd, .ref b1, .ref b2, .ref b3, .long be, .ref b4, .ref b5, .int fs])), (b0, .inl (cI, 7, .inl mr)), (b1, .inl (cI, 400, .inl mp)), (b2, .inl (cJ, 49, .inr (.inl ch))), (b3, .inl (cJ, 49, .inr (.inl la))), (b4, .inl (cJ, 128, .inr (.inl se))), (b5, .inl (cI, 13, .inl ta))] := hD
    refine lv_if_eq (tgt := 73) hx hb dX7_isAsked_66 (by decide) (fun hc6 => ?_) (fun hc6 => ?_)
    · have hf := q_if hf hc6
      exact B_X7_isAsked_73 C0 hf H locs ls hP hD hS (lv_sub hl [] rfl)
    · have hf := q_nif hf hc6
      refine lv_iconst (v := 1) hx hb dX7_isAsked_69 (by decide) ?_
      refine lv_goto (tgt := 74) hx hb dX7_isAsked_70 (by decide) ?_
      obtain rfl := Option.some.inj hf
      exact q_retZ C0 (by rfl) hP hD hS dX7_isAsked_74
set_option maxHeartbeats 4000000 in
set_option maxRecDepth 100000 in
theorem B_X7_isAsked_0 {p : Program} {l : Launch} {e : Env} {s : State} {m : MethodId} {args : Array Value} {below : List Frame} {meth : Method} {c : Code} {A : Nat → Prop} {dC : Nat → ClassId} {dI : Nat → Nat → Nat} {cI cJ cZ : ClassId} {bM b0 b1 b2 b3 b4 b5 : Nat} (C0 : q_C p s m args meth c (dC, dI) (q_T cI cJ cZ) A RX7 wsX7_isAsked cX7_isAsked 6 (some .boolean)) {x1 : Int32} {x2 : Int32} {x3 : Int32} {x4 : Int32} {th : Int32} {tc : Int64} {mr : (Nat → Int32)} {pd : Int32} {mp : (Nat → Int32)} {ch : (Nat → Int64)} {la : (Nat → Int64)} {be : Int64} {se : (Nat → Int64)} {ta : (Nat → Int32)} {fs : Int32} {R : Int32} (hf : f_X7_isAsked x1 x2 x3 x4 th tc mr pd mp ch la be se ta fs = some R) : ∀ (H : Heap) (locs : List Loc) (ls : Array Slot), va_P (dC, dI) vwCl [(bM, .inr (7, [.int th, .long tc, .ref b0, .int pd, .ref b1, .ref b2, .ref b3, .long be, .ref b4, .ref b5, .int fs])), (b0, .inl (cI, 7, .inl mr)), (b1, .inl (cI, 400, .inl mp)), (b2, .inl (cJ, 49, .inr (.inl ch))), (b3, .inl (cJ, 49, .inr (.inl la))), (b4, .inl (cJ, 128, .inr (.inl se))), (b5, .inl (cI, 13, .inl ta))] H → va_D A [(bM, .inr (7, [.int th, .long tc, .ref b0, .int pd, .ref b1, .ref b2, .ref b3, .long be, .ref b4, .ref b5, .int fs])), (b0, .inl (cI, 7, .inl mr)), (b1, .inl (cI, 400, .inl mp)), (b2, .inl (cJ, 49, .inr (.inl ch))), (b3, .inl (cJ, 49, .inr (.inl la))), (b4, .inl (cJ, 128, .inr (.inl se))), (b5, .inl (cI, 13, .inl ta))] → va_S A s.heap H locs → lv_has ls 6 [(0, .ref bM), (1, .int x1), (2, .int x2), (3, .int x3), (4, .int x4)] → W p l e rmX7_isAsked s m args below meth c H locs 0 0 (MQ below (qI (dC, dI) (q_T cI cJ cZ) [(bM, .inr (7, [.int th, .long tc, .ref b0, .int pd, .ref b1, .ref b2, .ref b3, .long be, .ref b4, .ref b5, .int fs])), (b0, .inl (cI, 7, .inl mr)), (b1, .inl (cI, 400, .inl mp)), (b2, .inl (cJ, 49, .inr (.inl ch))), (b3, .inl (cJ, 49, .inr (.inl la))), (b4, .inl (cJ, 128, .inr (.inl se))), (b5, .inl (cI, 13, .inl ta))] R A) args s 0 0 A) (F0 m 0 ls []) := by
  obtain ⟨hx, hb, hml, hown, hts, hrt, hlk, hK, hX, hA⟩ := id C0
  intro H locs ls hP hD hS hl
  unfold f_X7_isAsked at hf
  refine lv_aload_n hx hb dX7_isAsked_0 rfl (lv_at hl 0 rfl) ?_
  refine q_get (TT := TX7) C0 in_X7_isAsked_X7 2 m_X7_isAsked_f7 hP 0 rfl rfl (by decide) rfl rfl dX7_isAsked_1 ?_
  refine lv_iconst (v := 2) hx hb dX7_isAsked_4 (by decide) ?_
  refine q_iald (v := mr 2) C0 hP 1 0 rfl rfl (by unfold vp_in; decide) rfl dX7_isAsked_5 ?_
  refine lv_istore (lv' := [(5, .int (mr 2)), (0, .ref bM), (1, .int x1), (2, .int x2), (3, .int x3), (4, .int x4)]) hx hb dX7_isAsked_6 hl (by decide) rfl (fun ls hl => ?_)
  refine lv_iload_n hx hb dX7_isAsked_8 rfl (lv_at hl 2 rfl) ?_
  refine lv_iconst (v := 0) hx hb dX7_isAsked_9 (by decide) ?_
  refine lv_iload hx hb dX7_isAsked_10 (lv_at hl 0 rfl) ?_
  obtain ⟨r7, hg8, hf⟩ := q_e1 hf
  refine q_endI (wc := []) (wr := [(bM, .inr (7, [.int th, .long tc, .ref b0, .int pd, .ref b1, .ref b2, .ref b3, .long be, .ref b4, .ref b5, .int fs])), (b0, .inl (cI, 7, .inl mr)), (b1, .inl (cI, 400, .inl mp)), (b2, .inl (cJ, 49, .inr (.inl ch))), (b3, .inl (cJ, 49, .inr (.inl la))), (b4, .inl (cJ, 128, .inr (.inl se))), (b5, .inl (cI, 13, .inl ta))]) (w1 := []) (rv := r7) C0 hP hD hS [] [0, 1, 2, 3, 4, 5, 6] rfl rfl (by decide) (by decide) (q_runS C0 (c_X7_in (l := l) hg8) (va_cwS 3 hts gX7_isAsked_X7_in rfl rfl rfl (by decide +kernel) ⟨Nat.le_of_ble_eq_true rfl, Nat.le_of_ble_eq_true rfl⟩) hP hD hS [] rfl (by decide) rfl rfl hl.1 (Nat.le_of_ble_eq_true rfl) dX7_isAsked_12) (fun H locs hP hD hS => ?_)
  have hP : va_P (dC, dI) vwCl [(bM, .inr (7, [.int th, .long tc, .ref b0, .int pd, .ref b1, .ref b2, .ref b3, .long be, .ref b4, .ref b5, .int fs])), (b0, .inl (cI, 7, .inl mr)), (b1, .inl (cI, 400, .inl mp)), (b2, .inl (cJ, 49, .inr (.inl ch))), (b3, .inl (cJ, 49, .inr (.inl la))), (b4, .inl (cJ, 128, .inr (.inl se))), (b5, .inl (cI, 13, .inl ta))] H := hP
  have hD : va_D A [(bM, .inr (7, [.int th, .long tc, .ref b0, .int pd, .ref b1, .ref b2, .ref b3, .long be, .ref b4, .ref b5, .int fs])), (b0, .inl (cI, 7, .inl mr)), (b1, .inl (cI, 400, .inl mp)), (b2, .inl (cJ, 49, .inr (.inl ch))), (b3, .inl (cJ, 49, .inr (.inl la))), (b4, .inl (cJ, 128, .inr (.inl se))), (b5, .inl (cI, 13, .inl ta))] := hD
  refine lv_if_eq (tgt := 73) hx hb dX7_isAsked_15 (by decide) (fun hc9 => ?_) (fun hc9 => ?_)
  · have hf := q_if hf hc9
    exact B_X7_isAsked_73 C0 hf H locs ls hP hD hS (lv_sub hl [] rfl)
  · have hf := q_nif hf hc9
    refine lv_iload_n hx hb dX7_isAsked_18 rfl (lv_at hl 3 rfl) ?_
    refine lv_iconst (v := 0) hx hb dX7_isAsked_19 (by decide) ?_
    refine lv_iload hx hb dX7_isAsked_20 (lv_at hl 0 rfl) ?_
    obtain ⟨r10, hg11, hf⟩ := q_e1 hf
    refine q_endI (wc := []) (wr := [(bM, .inr (7, [.int th, .long tc, .ref b0, .int pd, .ref b1, .ref b2, .ref b3, .long be, .ref b4, .ref b5, .int fs])), (b0, .inl (cI, 7, .inl mr)), (b1, .inl (cI, 400, .inl mp)), (b2, .inl (cJ, 49, .inr (.inl ch))), (b3, .inl (cJ, 49, .inr (.inl la))), (b4, .inl (cJ, 128, .inr (.inl se))), (b5, .inl (cI, 13, .inl ta))]) (w1 := []) (rv := r10) C0 hP hD hS [] [0, 1, 2, 3, 4, 5, 6] rfl rfl (by decide) (by decide) (q_runS C0 (c_X7_in (l := l) hg11) (va_cwS 3 hts gX7_isAsked_X7_in rfl rfl rfl (by decide +kernel) ⟨Nat.le_of_ble_eq_true rfl, Nat.le_of_ble_eq_true rfl⟩) hP hD hS [] rfl (by decide) rfl rfl hl.1 (Nat.le_of_ble_eq_true rfl) dX7_isAsked_22) (fun H locs hP hD hS => ?_)
    have hP : va_P (dC, dI) vwCl [(bM, .inr (7, [.int th, .long tc, .ref b0, .int pd, .ref b1, .ref b2, .ref b3, .long be, .ref b4, .ref b5, .int fs])), (b0, .inl (cI, 7, .inl mr)), (b1, .inl (cI, 400, .inl mp)), (b2, .inl (cJ, 49, .inr (.inl ch))), (b3, .inl (cJ, 49, .inr (.inl la))), (b4, .inl (cJ, 128, .inr (.inl se))), (b5, .inl (cI, 13, .inl ta))] H := hP
    have hD : va_D A [(bM, .inr (7, [.int th, .long tc, .ref b0, .int pd, .ref b1, .ref b2, .ref b3, .long be, .ref b4, .ref b5, .int fs])), (b0, .inl (cI, 7, .inl mr)), (b1, .inl (cI, 400, .inl mp)), (b2, .inl (cJ, 49, .inr (.inl ch))), (b3, .inl (cJ, 49, .inr (.inl la))), (b4, .inl (cJ, 128, .inr (.inl se))), (b5, .inl (cI, 13, .inl ta))] := hD
    refine lv_if_eq (tgt := 73) hx hb dX7_isAsked_25 (by decide) (fun hc12 => ?_) (fun hc12 => ?_)
    · have hf := q_if hf hc12
      exact B_X7_isAsked_73 C0 hf H locs ls hP hD hS (lv_sub hl [] rfl)
    · have hf := q_nif hf hc12
      refine lv_aload_n hx hb dX7_isAsked_28 rfl (lv_at hl 1 rfl) ?_
      refine q_get (TT := TX7) C0 in_X7_isAsked_X7 2 m_X7_isAsked_f7 hP 0 rfl rfl (by decide) rfl rfl dX7_isAsked_29 ?_
      refine lv_bipush (v := 6) hx hb dX7_isAsked_32 (by decide) ?_
      refine q_iald (v := mr 6) C0 hP 1 0 rfl rfl (by unfold vp_in; decide) rfl dX7_isAsked_34 ?_
      refine lv_if_eq (tgt := 50) hx hb dX7_isAsked_35 (by decide) (fun hc13 => ?_) (fun hc13 => ?_)
      · have hf := q_if hf hc13
        exact B_X7_isAsked_50 C0 hf H locs ls hP hD hS (lv_sub hl [4, 5] rfl)
      · have hf := q_nif hf hc13
        refine lv_iload_n hx hb dX7_isAsked_38 rfl (lv_at hl 2 rfl) ?_
        refine lv_iload hx hb dX7_isAsked_39 (lv_at hl 0 rfl) ?_
        refine lv_icmp_lt (tgt := 50) hx hb dX7_isAsked_41 (by decide) (fun hc14 => ?_) (fun hc14 => ?_)
        · have hf := q_if hf hc14
          exact B_X7_isAsked_50 C0 hf H locs ls hP hD hS (lv_sub hl [4, 5] rfl)
        · have hf := q_nif hf hc14
          refine lv_iload_n hx hb dX7_isAsked_44 rfl (lv_at hl 3 rfl) ?_
          refine lv_iload hx hb dX7_isAsked_45 (lv_at hl 0 rfl) ?_
          refine lv_icmp_ge (tgt := 73) hx hb dX7_isAsked_47 (by decide) (fun hc15 => ?_) (fun hc15 => ?_)
          · have hf := q_if hf hc15
            exact B_X7_isAsked_73 C0 hf H locs ls hP hD hS (lv_sub hl [] rfl)
          · have hf := q_nif hf hc15
            exact B_X7_isAsked_50 C0 hf H locs ls hP hD hS (lv_sub hl [4, 5] rfl)
set_option maxHeartbeats 4000000 in
set_option maxRecDepth 100000 in
theorem c_X7_isAsked {l : Launch} {dC : Nat → ClassId} {dI : Nat → Nat → Nat} {cI cJ cZ : ClassId} {bM b0 b1 b2 b3 b4 b5 : Nat} {x1 : Int32} {x2 : Int32} {x3 : Int32} {x4 : Int32} {th : Int32} {tc : Int64} {mr : (Nat → Int32)} {pd : Int32} {mp : (Nat → Int32)} {ch : (Nat → Int64)} {la : (Nat → Int64)} {be : Int64} {se : (Nat → Int64)} {ta : (Nat → Int32)} {fs : Int32} {R : Int32} (hf : f_X7_isAsked x1 x2 x3 x4 th tc mr pd mp ch la be se ta fs = some R) : q_M l yX7_isAsked wsX7_isAsked rmX7_isAsked (dC, dI) (q_T cI cJ cZ) [.ref bM, .int x1, .int x2, .int x3, .int x4] [(bM, .inr (7, [.int th, .long tc, .ref b0, .int pd, .ref b1, .ref b2, .ref b3, .long be, .ref b4, .ref b5, .int fs])), (b0, .inl (cI, 7, .inl mr)), (b1, .inl (cI, 400, .inl mp)), (b2, .inl (cJ, 49, .inr (.inl ch))), (b3, .inl (cJ, 49, .inr (.inl la))), (b4, .inl (cJ, 128, .inr (.inl se))), (b5, .inl (cI, 13, .inl ta))] (qI (dC, dI) (q_T cI cJ cZ) [(bM, .inr (7, [.int th, .long tc, .ref b0, .int pd, .ref b1, .ref b2, .ref b3, .long be, .ref b4, .ref b5, .int fs])), (b0, .inl (cI, 7, .inl mr)), (b1, .inl (cI, 400, .inl mp)), (b2, .inl (cJ, 49, .inr (.inl ch))), (b3, .inl (cJ, 49, .inr (.inl la))), (b4, .inl (cJ, 128, .inr (.inl se))), (b5, .inl (cI, 13, .inl ta))] R) := by
  refine q_body (cc := cX7_isAsked) (maxL := 6) (ret := (some .boolean)) (by decide) rfl (Nat.le_of_ble_eq_true rfl) ?_
  intro p e s m args below meth c A C0 ls hP hD hS hl
  have hl : lv_has ls 6 [(0, .ref bM), (1, .int x1), (2, .int x2), (3, .int x3), (4, .int x4)] := hl
  exact B_X7_isAsked_0 C0 hf s.heap [] ls hP hD hS hl
/-! ## RungPlayModel.chance -/
abbrev rmX7_chance : Room := { frames := 2, cells := 0, slots := 0, locals := 55 }
theorem m_X7_chance_f32 : Cond.fieldLink RX7 32 RX7 "thrown" "I" ∈ wsX7_chance := by decide +kernel
theorem in_X7_chance_X7 : ∀ w ∈ wsX70, w ∈ wsX7_chance := by decide +kernel
theorem m_X7_chance_f16 : Cond.fieldLink RX7 16 RX7 "chances" "[J" ∈ wsX7_chance := by decide +kernel
theorem m_X7_chance_k80 : Cond.constantLong RX7 80 (-1000000000000000000) ∈ wsX7_chance := by decide +kernel
noncomputable def f_X7_chance (x1 : Int32) (x2 : Int32) (x3 : Int32) (x4 : Int32) (th : Int32) (tc : Int64) (mr : (Nat → Int32)) (pd : Int32) (mp : (Nat → Int32)) (ch : (Nat → Int64)) (la : (Nat → Int64)) (be : Int64) (se : (Nat → Int64)) (ta : (Nat → Int32)) (fs : Int32) : Option (Int64 × Int32 × (Nat → Int64) × (Nat → Int64) × Int64) :=
  (q_b1 (f_X7_isAsked x1 x2 x3 x4 0 tc mr pd mp ch la be se ta fs) (fun r1 => (if r1 = 0 then (some ((-1000000000000000000 : Int64), 0, ch, la, be)) else (q_b3 (f_X7_works x3 0 tc mr pd mp ch la be se ta fs) (fun ch4 la5 be6 => (if (7 * x1) + x2 < 0 ∨ 49 ≤ Int32.toNatClampNeg ((7 * x1) + x2) then none else (q_b1 (f_X7_part (ch4 (Int32.toNatClampNeg ((7 * x1) + x2))) x4 0 tc mr pd mp ch4 la5 be6 se ta fs) (fun r9 => (some (r9, 0, ch4, la5, be6))))))))))
set_option maxHeartbeats 4000000 in
set_option maxRecDepth 100000 in
theorem B_X7_chance_0 {p : Program} {l : Launch} {e : Env} {s : State} {m : MethodId} {args : Array Value} {below : List Frame} {meth : Method} {c : Code} {A : Nat → Prop} {dC : Nat → ClassId} {dI : Nat → Nat → Nat} {cI cJ cZ : ClassId} {bM b0 b1 b2 b3 b4 b5 : Nat} (C0 : q_C p s m args meth c (dC, dI) (q_T cI cJ cZ) A RX7 wsX7_chance cX7_chance 5 (some .long)) {x1 : Int32} {x2 : Int32} {x3 : Int32} {x4 : Int32} {th : Int32} {tc : Int64} {mr : (Nat → Int32)} {pd : Int32} {mp : (Nat → Int32)} {ch : (Nat → Int64)} {la : (Nat → Int64)} {be : Int64} {se : (Nat → Int64)} {ta : (Nat → Int32)} {fs : Int32} {R : Int64 × Int32 × (Nat → Int64) × (Nat → Int64) × Int64} (hf : f_X7_chance x1 x2 x3 x4 th tc mr pd mp ch la be se ta fs = some R) : ∀ (H : Heap) (locs : List Loc) (ls : Array Slot), va_P (dC, dI) vwCl [(bM, .inr (7, [.int th, .long tc, .ref b0, .int pd, .ref b1, .ref b2, .ref b3, .long be, .ref b4, .ref b5, .int fs])), (b0, .inl (cI, 7, .inl mr)), (b1, .inl (cI, 400, .inl mp)), (b2, .inl (cJ, 49, .inr (.inl ch))), (b3, .inl (cJ, 49, .inr (.inl la))), (b4, .inl (cJ, 128, .inr (.inl se))), (b5, .inl (cI, 13, .inl ta))] H → va_D A [(bM, .inr (7, [.int th, .long tc, .ref b0, .int pd, .ref b1, .ref b2, .ref b3, .long be, .ref b4, .ref b5, .int fs])), (b0, .inl (cI, 7, .inl mr)), (b1, .inl (cI, 400, .inl mp)), (b2, .inl (cJ, 49, .inr (.inl ch))), (b3, .inl (cJ, 49, .inr (.inl la))), (b4, .inl (cJ, 128, .inr (.inl se))), (b5, .inl (cI, 13, .inl ta))] → va_S A s.heap H locs → lv_has ls 5 [(0, .ref bM), (1, .int x1), (2, .int x2), (3, .int x3), (4, .int x4)] → W p l e rmX7_chance s m args below meth c H locs 0 0 (MQ below (qL (dC, dI) (q_T cI cJ cZ) [(bM, .inr (7, [.int R.2.1, .long tc, .ref b0, .int pd, .ref b1, .ref b2, .ref b3, .long R.2.2.2.2, .ref b4, .ref b5, .int fs])), (b0, .inl (cI, 7, .inl mr)), (b1, .inl (cI, 400, .inl mp)), (b2, .inl (cJ, 49, .inr (.inl R.2.2.1))), (b3, .inl (cJ, 49, .inr (.inl R.2.2.2.1))), (b4, .inl (cJ, 128, .inr (.inl se))), (b5, .inl (cI, 13, .inl ta))] R.1 A) args s 0 0 A) (F0 m 0 ls []) := by
  obtain ⟨hx, hb, hml, hown, hts, hrt, hlk, hK, hX, hA⟩ := id C0
  intro H locs ls hP hD hS hl
  unfold f_X7_chance at hf
  refine lv_aload_n hx hb dX7_chance_0 rfl (lv_at hl 0 rfl) ?_
  refine lv_iconst (v := 0) hx hb dX7_chance_1 (by decide) ?_
  refine q_put (ty := .int) (TT := TX7) C0 in_X7_chance_X7 tyX7 tyX7_ok nmX7 0 m_X7_chance_f32 hP hD hS 0 rfl rfl (by decide) rfl rfl (by decide +kernel) rfl rfl (Nat.le_of_ble_eq_true rfl) dX7_chance_2 (fun H locs hP hD hS => ?_)
  have hP : va_P (dC, dI) vwCl [(bM, .inr (7, [.int 0, .long tc, .ref b0, .int pd, .ref b1, .ref b2, .ref b3, .long be, .ref b4, .ref b5, .int fs])), (b0, .inl (cI, 7, .inl mr)), (b1, .inl (cI, 400, .inl mp)), (b2, .inl (cJ, 49, .inr (.inl ch))), (b3, .inl (cJ, 49, .inr (.inl la))), (b4, .inl (cJ, 128, .inr (.inl se))), (b5, .inl (cI, 13, .inl ta))] H := hP
  have hD : va_D A [(bM, .inr (7, [.int 0, .long tc, .ref b0, .int pd, .ref b1, .ref b2, .ref b3, .long be, .ref b4, .ref b5, .int fs])), (b0, .inl (cI, 7, .inl mr)), (b1, .inl (cI, 400, .inl mp)), (b2, .inl (cJ, 49, .inr (.inl ch))), (b3, .inl (cJ, 49, .inr (.inl la))), (b4, .inl (cJ, 128, .inr (.inl se))), (b5, .inl (cI, 13, .inl ta))] := hD
  refine lv_aload_n hx hb dX7_chance_5 rfl (lv_at hl 0 rfl) ?_
  refine lv_iload_n hx hb dX7_chance_6 rfl (lv_at hl 1 rfl) ?_
  refine lv_iload_n hx hb dX7_chance_7 rfl (lv_at hl 2 rfl) ?_
  refine lv_iload_n hx hb dX7_chance_8 rfl (lv_at hl 3 rfl) ?_
  refine lv_iload hx hb dX7_chance_9 (lv_at hl 4 rfl) ?_
  obtain ⟨r1, hg2, hf⟩ := q_e1 hf
  refine q_endI (wc := [(bM, .inr (7, [.int 0, .long tc, .ref b0, .int pd, .ref b1, .ref b2, .ref b3, .long be, .ref b4, .ref b5, .int fs])), (b0, .inl (cI, 7, .inl mr)), (b1, .inl (cI, 400, .inl mp)), (b2, .inl (cJ, 49, .inr (.inl ch))), (b3, .inl (cJ, 49, .inr (.inl la))), (b4, .inl (cJ, 128, .inr (.inl se))), (b5, .inl (cI, 13, .inl ta))]) (wr := []) (w1 := [(bM, .inr (7, [.int 0, .long tc, .ref b0, .int pd, .ref b1, .ref b2, .ref b3, .long be, .ref b4, .ref b5, .int fs])), (b0, .inl (cI, 7, .inl mr)), (b1, .inl (cI, 400, .inl mp)), (b2, .inl (cJ, 49, .inr (.inl ch))), (b3, .inl (cJ, 49, .inr (.inl la))), (b4, .inl (cJ, 128, .inr (.inl se))), (b5, .inl (cI, 13, .inl ta))]) (rv := r1) C0 hP hD hS [0, 1, 2, 3, 4, 5, 6] [] rfl rfl (by decide) (by decide) (q_runV (TT := TX7) (N := 11) (ci := 7) (q0 := 0) C0 (c_X7_isAsked (l := l) hg2) (cwV 4 hts gX7_chance_X7_isAsked rfl rfl rfl (by decide +kernel) ⟨Nat.le_of_ble_eq_true rfl, Nat.le_of_ble_eq_true rfl⟩) hP hD hS [0, 1, 2, 3, 4, 5, 6] rfl (by decide) rfl rfl rfl rfl hl.1 (Nat.le_of_ble_eq_true rfl) dX7_chance_11) (fun H locs hP hD hS => ?_)
  have hP : va_P (dC, dI) vwCl [(bM, .inr (7, [.int 0, .long tc, .ref b0, .int pd, .ref b1, .ref b2, .ref b3, .long be, .ref b4, .ref b5, .int fs])), (b0, .inl (cI, 7, .inl mr)), (b1, .inl (cI, 400, .inl mp)), (b2, .inl (cJ, 49, .inr (.inl ch))), (b3, .inl (cJ, 49, .inr (.inl la))), (b4, .inl (cJ, 128, .inr (.inl se))), (b5, .inl (cI, 13, .inl ta))] H := hP
  have hD : va_D A [(bM, .inr (7, [.int 0, .long tc, .ref b0, .int pd, .ref b1, .ref b2, .ref b3, .long be, .ref b4, .ref b5, .int fs])), (b0, .inl (cI, 7, .inl mr)), (b1, .inl (cI, 400, .inl mp)), (b2, .inl (cJ, 49, .inr (.inl ch))), (b3, .inl (cJ, 49, .inr (.inl la))), (b4, .inl (cJ, 128, .inr (.inl se))), (b5, .inl (cI, 13, .inl ta))] := hD
  refine lv_if_ne (tgt := 21) hx hb dX7_chance_14 (by decide) (fun hc3 => ?_) (fun hc3 => ?_)
  · have hf := q_nif hf hc3
    refine lv_aload_n hx hb dX7_chance_21 rfl (lv_at hl 0 rfl) ?_
    refine lv_iload_n hx hb dX7_chance_22 rfl (lv_at hl 3 rfl) ?_
    obtain ⟨ch4, la5, be6, hg7, hf⟩ := q_e3 hf
    refine q_endV (wc := [(bM, .inr (7, [.int 0, .long tc, .ref b0, .int pd, .ref b1, .ref b2, .ref b3, .long be, .ref b4, .ref b5, .int fs])), (b0, .inl (cI, 7, .inl mr)), (b1, .inl (cI, 400, .inl mp)), (b2, .inl (cJ, 49, .inr (.inl ch))), (b3, .inl (cJ, 49, .inr (.inl la))), (b4, .inl (cJ, 128, .inr (.inl se))), (b5, .inl (cI, 13, .inl ta))]) (wr := []) (w1 := [(bM, .inr (7, [.int 0, .long tc, .ref b0, .int pd, .ref b1, .ref b2, .ref b3, .long be6, .ref b4, .ref b5, .int fs])), (b0, .inl (cI, 7, .inl mr)), (b1, .inl (cI, 400, .inl mp)), (b2, .inl (cJ, 49, .inr (.inl ch4))), (b3, .inl (cJ, 49, .inr (.inl la5))), (b4, .inl (cJ, 128, .inr (.inl se))), (b5, .inl (cI, 13, .inl ta))]) C0 hP hD hS [0, 1, 2, 3, 4, 5, 6] [] rfl rfl (by decide) (by decide) (q_runV (TT := TX7) (N := 11) (ci := 7) (q0 := 0) C0 (c_X7_works (l := l) hg7) (cwV 1 hts gX7_chance_X7_works rfl rfl rfl (by decide +kernel) ⟨Nat.le_of_ble_eq_true rfl, Nat.le_of_ble_eq_true rfl⟩) hP hD hS [0, 1, 2, 3, 4, 5, 6] rfl (by decide) rfl rfl rfl rfl hl.1 (Nat.le_of_ble_eq_true rfl) dX7_chance_23) (fun H locs hP hD hS => ?_)
    have hP : va_P (dC, dI) vwCl [(bM, .inr (7, [.int 0, .long tc, .ref b0, .int pd, .ref b1, .ref b2, .ref b3, .long be6, .ref b4, .ref b5, .int fs])), (b0, .inl (cI, 7, .inl mr)), (b1, .inl (cI, 400, .inl mp)), (b2, .inl (cJ, 49, .inr (.inl ch4))), (b3, .inl (cJ, 49, .inr (.inl la5))), (b4, .inl (cJ, 128, .inr (.inl se))), (b5, .inl (cI, 13, .inl ta))] H := hP
    have hD : va_D A [(bM, .inr (7, [.int 0, .long tc, .ref b0, .int pd, .ref b1, .ref b2, .ref b3, .long be6, .ref b4, .ref b5, .int fs])), (b0, .inl (cI, 7, .inl mr)), (b1, .inl (cI, 400, .inl mp)), (b2, .inl (cJ, 49, .inr (.inl ch4))), (b3, .inl (cJ, 49, .inr (.inl la5))), (b4, .inl (cJ, 128, .inr (.inl se))), (b5, .inl (cI, 13, .inl ta))] := hD
    refine lv_aload_n hx hb dX7_chance_26 rfl (lv_at hl 0 rfl) ?_
    refine lv_aload_n hx hb dX7_chance_27 rfl (lv_at hl 0 rfl) ?_
    refine q_get (TT := TX7) C0 in_X7_chance_X7 5 m_X7_chance_f16 hP 0 rfl rfl (by decide) rfl rfl dX7_chance_28 ?_
    refine lv_bipush (v := 7) hx hb dX7_chance_31 (by decide) ?_
    refine lv_iload_n hx hb dX7_chance_33 rfl (lv_at hl 1 rfl) ?_
    refine lv_imul hx hb dX7_chance_34 ?_
    refine lv_iload_n hx hb dX7_chance_35 rfl (lv_at hl 2 rfl) ?_
    refine lv_iadd hx hb dX7_chance_36 ?_
    obtain ⟨hin8, hf⟩ := q_gd hf
    refine q_lald (v := ch4 (Int32.toNatClampNeg ((7 * x1) + x2))) C0 hP 3 1 rfl rfl hin8 rfl dX7_chance_37 ?_
    refine lv_iload hx hb dX7_chance_38 (lv_at hl 4 rfl) ?_
    obtain ⟨r9, hg10, hf⟩ := q_e1 hf
    refine q_endL (wc := [(bM, .inr (7, [.int 0, .long tc, .ref b0, .int pd, .ref b1, .ref b2, .ref b3, .long be6, .ref b4, .ref b5, .int fs])), (b0, .inl (cI, 7, .inl mr)), (b1, .inl (cI, 400, .inl mp)), (b2, .inl (cJ, 49, .inr (.inl ch4))), (b3, .inl (cJ, 49, .inr (.inl la5))), (b4, .inl (cJ, 128, .inr (.inl se))), (b5, .inl (cI, 13, .inl ta))]) (wr := []) (w1 := [(bM, .inr (7, [.int 0, .long tc, .ref b0, .int pd, .ref b1, .ref b2, .ref b3, .long be6, .ref b4, .ref b5, .int fs])), (b0, .inl (cI, 7, .inl mr)), (b1, .inl (cI, 400, .inl mp)), (b2, .inl (cJ, 49, .inr (.inl ch4))), (b3, .inl (cJ, 49, .inr (.inl la5))), (b4, .inl (cJ, 128, .inr (.inl se))), (b5, .inl (cI, 13, .inl ta))]) (rv := r9) C0 hP hD hS [0, 1, 2, 3, 4, 5, 6] [] rfl rfl (by decide) (by decide) (q_runV (TT := TX7) (N := 11) (ci := 7) (q0 := 0) C0 (c_X7_part (l := l) hg10) (cwV 2 hts gX7_chance_X7_part rfl rfl rfl (by decide +kernel) ⟨Nat.le_of_ble_eq_true rfl, Nat.le_of_ble_eq_true rfl⟩) hP hD hS [0, 1, 2, 3, 4, 5, 6] rfl (by decide) rfl rfl rfl rfl hl.1 (Nat.le_of_ble_eq_true rfl) dX7_chance_40) (fun H locs hP hD hS => ?_)
    have hP : va_P (dC, dI) vwCl [(bM, .inr (7, [.int 0, .long tc, .ref b0, .int pd, .ref b1, .ref b2, .ref b3, .long be6, .ref b4, .ref b5, .int fs])), (b0, .inl (cI, 7, .inl mr)), (b1, .inl (cI, 400, .inl mp)), (b2, .inl (cJ, 49, .inr (.inl ch4))), (b3, .inl (cJ, 49, .inr (.inl la5))), (b4, .inl (cJ, 128, .inr (.inl se))), (b5, .inl (cI, 13, .inl ta))] H := hP
    have hD : va_D A [(bM, .inr (7, [.int 0, .long tc, .ref b0, .int pd, .ref b1, .ref b2, .ref b3, .long be6, .ref b4, .ref b5, .int fs])), (b0, .inl (cI, 7, .inl mr)), (b1, .inl (cI, 400, .inl mp)), (b2, .inl (cJ, 49, .inr (.inl ch4))), (b3, .inl (cJ, 49, .inr (.inl la5))), (b4, .inl (cJ, 128, .inr (.inl se))), (b5, .inl (cI, 13, .inl ta))] := hD
    obtain rfl := Option.some.inj hf
    exact q_retL C0 hP hD hS dX7_chance_43
  · have hf := q_if hf hc3
    refine lv_ldc2 hx hb hown (hts _ m_X7_chance_k80) dX7_chance_17 ?_
    obtain rfl := Option.some.inj hf
    exact q_retL C0 hP hD hS dX7_chance_20
set_option maxHeartbeats 4000000 in
set_option maxRecDepth 100000 in
theorem c_X7_chance {l : Launch} {dC : Nat → ClassId} {dI : Nat → Nat → Nat} {cI cJ cZ : ClassId} {bM b0 b1 b2 b3 b4 b5 : Nat} {x1 : Int32} {x2 : Int32} {x3 : Int32} {x4 : Int32} {th : Int32} {tc : Int64} {mr : (Nat → Int32)} {pd : Int32} {mp : (Nat → Int32)} {ch : (Nat → Int64)} {la : (Nat → Int64)} {be : Int64} {se : (Nat → Int64)} {ta : (Nat → Int32)} {fs : Int32} {R : Int64 × Int32 × (Nat → Int64) × (Nat → Int64) × Int64} (hf : f_X7_chance x1 x2 x3 x4 th tc mr pd mp ch la be se ta fs = some R) : q_M l yX7_chance wsX7_chance rmX7_chance (dC, dI) (q_T cI cJ cZ) [.ref bM, .int x1, .int x2, .int x3, .int x4] [(bM, .inr (7, [.int th, .long tc, .ref b0, .int pd, .ref b1, .ref b2, .ref b3, .long be, .ref b4, .ref b5, .int fs])), (b0, .inl (cI, 7, .inl mr)), (b1, .inl (cI, 400, .inl mp)), (b2, .inl (cJ, 49, .inr (.inl ch))), (b3, .inl (cJ, 49, .inr (.inl la))), (b4, .inl (cJ, 128, .inr (.inl se))), (b5, .inl (cI, 13, .inl ta))] (qL (dC, dI) (q_T cI cJ cZ) [(bM, .inr (7, [.int R.2.1, .long tc, .ref b0, .int pd, .ref b1, .ref b2, .ref b3, .long R.2.2.2.2, .ref b4, .ref b5, .int fs])), (b0, .inl (cI, 7, .inl mr)), (b1, .inl (cI, 400, .inl mp)), (b2, .inl (cJ, 49, .inr (.inl R.2.2.1))), (b3, .inl (cJ, 49, .inr (.inl R.2.2.2.1))), (b4, .inl (cJ, 128, .inr (.inl se))), (b5, .inl (cI, 13, .inl ta))] R.1) := by
  refine q_body (cc := cX7_chance) (maxL := 5) (ret := (some .long)) (by decide) rfl (Nat.le_of_ble_eq_true rfl) ?_
  intro p e s m args below meth c A C0 ls hP hD hS hl
  have hl : lv_has ls 5 [(0, .ref bM), (1, .int x1), (2, .int x2), (3, .int x3), (4, .int x4)] := hl
  exact B_X7_chance_0 C0 hf s.heap [] ls hP hD hS hl
/-! ## RungPlayModel.lasts -/
abbrev rmX7_lasts : Room := { frames := 2, cells := 0, slots := 0, locals := 55 }
theorem m_X7_lasts_f32 : Cond.fieldLink RX7 32 RX7 "thrown" "I" ∈ wsX7_lasts := by decide +kernel
theorem in_X7_lasts_X7 : ∀ w ∈ wsX70, w ∈ wsX7_lasts := by decide +kernel
theorem m_X7_lasts_f20 : Cond.fieldLink RX7 20 RX7 "lasting" "[J" ∈ wsX7_lasts := by decide +kernel
theorem m_X7_lasts_k80 : Cond.constantLong RX7 80 (-1000000000000000000) ∈ wsX7_lasts := by decide +kernel
noncomputable def f_X7_lasts (x1 : Int32) (x2 : Int32) (x3 : Int32) (x4 : Int32) (th : Int32) (tc : Int64) (mr : (Nat → Int32)) (pd : Int32) (mp : (Nat → Int32)) (ch : (Nat → Int64)) (la : (Nat → Int64)) (be : Int64) (se : (Nat → Int64)) (ta : (Nat → Int32)) (fs : Int32) : Option (Int64 × Int32 × (Nat → Int64) × (Nat → Int64) × Int64) :=
  (q_b1 (f_X7_isAsked x1 x2 x3 x4 0 tc mr pd mp ch la be se ta fs) (fun r1 => (if r1 = 0 then (some ((-1000000000000000000 : Int64), 0, ch, la, be)) else (q_b3 (f_X7_works x3 0 tc mr pd mp ch la be se ta fs) (fun ch4 la5 be6 => (if (7 * x1) + x2 < 0 ∨ 49 ≤ Int32.toNatClampNeg ((7 * x1) + x2) then none else (q_b1 (f_X7_part (la5 (Int32.toNatClampNeg ((7 * x1) + x2))) x4 0 tc mr pd mp ch4 la5 be6 se ta fs) (fun r9 => (some (r9, 0, ch4, la5, be6))))))))))
set_option maxHeartbeats 4000000 in
set_option maxRecDepth 100000 in
theorem B_X7_lasts_0 {p : Program} {l : Launch} {e : Env} {s : State} {m : MethodId} {args : Array Value} {below : List Frame} {meth : Method} {c : Code} {A : Nat → Prop} {dC : Nat → ClassId} {dI : Nat → Nat → Nat} {cI cJ cZ : ClassId} {bM b0 b1 b2 b3 b4 b5 : Nat} (C0 : q_C p s m args meth c (dC, dI) (q_T cI cJ cZ) A RX7 wsX7_lasts cX7_lasts 5 (some .long)) {x1 : Int32} {x2 : Int32} {x3 : Int32} {x4 : Int32} {th : Int32} {tc : Int64} {mr : (Nat → Int32)} {pd : Int32} {mp : (Nat → Int32)} {ch : (Nat → Int64)} {la : (Nat → Int64)} {be : Int64} {se : (Nat → Int64)} {ta : (Nat → Int32)} {fs : Int32} {R : Int64 × Int32 × (Nat → Int64) × (Nat → Int64) × Int64} (hf : f_X7_lasts x1 x2 x3 x4 th tc mr pd mp ch la be se ta fs = some R) : ∀ (H : Heap) (locs : List Loc) (ls : Array Slot), va_P (dC, dI) vwCl [(bM, .inr (7, [.int th, .long tc, .ref b0, .int pd, .ref b1, .ref b2, .ref b3, .long be, .ref b4, .ref b5, .int fs])), (b0, .inl (cI, 7, .inl mr)), (b1, .inl (cI, 400, .inl mp)), (b2, .inl (cJ, 49, .inr (.inl ch))), (b3, .inl (cJ, 49, .inr (.inl la))), (b4, .inl (cJ, 128, .inr (.inl se))), (b5, .inl (cI, 13, .inl ta))] H → va_D A [(bM, .inr (7, [.int th, .long tc, .ref b0, .int pd, .ref b1, .ref b2, .ref b3, .long be, .ref b4, .ref b5, .int fs])), (b0, .inl (cI, 7, .inl mr)), (b1, .inl (cI, 400, .inl mp)), (b2, .inl (cJ, 49, .inr (.inl ch))), (b3, .inl (cJ, 49, .inr (.inl la))), (b4, .inl (cJ, 128, .inr (.inl se))), (b5, .inl (cI, 13, .inl ta))] → va_S A s.heap H locs → lv_has ls 5 [(0, .ref bM), (1, .int x1), (2, .int x2), (3, .int x3), (4, .int x4)] → W p l e rmX7_lasts s m args below meth c H locs 0 0 (MQ below (qL (dC, dI) (q_T cI cJ cZ) [(bM, .inr (7, [.int R.2.1, .long tc, .ref b0, .int pd, .ref b1, .ref b2, .ref b3, .long R.2.2.2.2, .ref b4, .ref b5, .int fs])), (b0, .inl (cI, 7, .inl mr)), (b1, .inl (cI, 400, .inl mp)), (b2, .inl (cJ, 49, .inr (.inl R.2.2.1))), (b3, .inl (cJ, 49, .inr (.inl R.2.2.2.1))), (b4, .inl (cJ, 128, .inr (.inl se))), (b5, .inl (cI, 13, .inl ta))] R.1 A) args s 0 0 A) (F0 m 0 ls []) := by
  obtain ⟨hx, hb, hml, hown, hts, hrt, hlk, hK, hX, hA⟩ := id C0
  intro H locs ls hP hD hS hl
  unfold f_X7_lasts at hf
  refine lv_aload_n hx hb dX7_lasts_0 rfl (lv_at hl 0 rfl) ?_
  refine lv_iconst (v := 0) hx hb dX7_lasts_1 (by decide) ?_
  refine q_put (ty := .int) (TT := TX7) C0 in_X7_lasts_X7 tyX7 tyX7_ok nmX7 0 m_X7_lasts_f32 hP hD hS 0 rfl rfl (by decide) rfl rfl (by decide +kernel) rfl rfl (Nat.le_of_ble_eq_true rfl) dX7_lasts_2 (fun H locs hP hD hS => ?_)
  have hP : va_P (dC, dI) vwCl [(bM, .inr (7, [.int 0, .long tc, .ref b0, .int pd, .ref b1, .ref b2, .ref b3, .long be, .ref b4, .ref b5, .int fs])), (b0, .inl (cI, 7, .inl mr)), (b1, .inl (cI, 400, .inl mp)), (b2, .inl (cJ, 49, .inr (.inl ch))), (b3, .inl (cJ, 49, .inr (.inl la))), (b4, .inl (cJ, 128, .inr (.inl se))), (b5, .inl (cI, 13, .inl ta))] H := hP
  have hD : va_D A [(bM, .inr (7, [.int 0, .long tc, .ref b0, .int pd, .ref b1, .ref b2, .ref b3, .long be, .ref b4, .ref b5, .int fs])), (b0, .inl (cI, 7, .inl mr)), (b1, .inl (cI, 400, .inl mp)), (b2, .inl (cJ, 49, .inr (.inl ch))), (b3, .inl (cJ, 49, .inr (.inl la))), (b4, .inl (cJ, 128, .inr (.inl se))), (b5, .inl (cI, 13, .inl ta))] := hD
  refine lv_aload_n hx hb dX7_lasts_5 rfl (lv_at hl 0 rfl) ?_
  refine lv_iload_n hx hb dX7_lasts_6 rfl (lv_at hl 1 rfl) ?_
  refine lv_iload_n hx hb dX7_lasts_7 rfl (lv_at hl 2 rfl) ?_
  refine lv_iload_n hx hb dX7_lasts_8 rfl (lv_at hl 3 rfl) ?_
  refine lv_iload hx hb dX7_lasts_9 (lv_at hl 4 rfl) ?_
  obtain ⟨r1, hg2, hf⟩ := q_e1 hf
  refine q_endI (wc := [(bM, .inr (7, [.int 0, .long tc, .ref b0, .int pd, .ref b1, .ref b2, .ref b3, .long be, .ref b4, .ref b5, .int fs])), (b0, .inl (cI, 7, .inl mr)), (b1, .inl (cI, 400, .inl mp)), (b2, .inl (cJ, 49, .inr (.inl ch))), (b3, .inl (cJ, 49, .inr (.inl la))), (b4, .inl (cJ, 128, .inr (.inl se))), (b5, .inl (cI, 13, .inl ta))]) (wr := []) (w1 := [(bM, .inr (7, [.int 0, .long tc, .ref b0, .int pd, .ref b1, .ref b2, .ref b3, .long be, .ref b4, .ref b5, .int fs])), (b0, .inl (cI, 7, .inl mr)), (b1, .inl (cI, 400, .inl mp)), (b2, .inl (cJ, 49, .inr (.inl ch))), (b3, .inl (cJ, 49, .inr (.inl la))), (b4, .inl (cJ, 128, .inr (.inl se))), (b5, .inl (cI, 13, .inl ta))]) (rv := r1) C0 hP hD hS [0, 1, 2, 3, 4, 5, 6] [] rfl rfl (by decide) (by decide) (q_runV (TT := TX7) (N := 11) (ci := 7) (q0 := 0) C0 (c_X7_isAsked (l := l) hg2) (cwV 4 hts gX7_lasts_X7_isAsked rfl rfl rfl (by decide +kernel) ⟨Nat.le_of_ble_eq_true rfl, Nat.le_of_ble_eq_true rfl⟩) hP hD hS [0, 1, 2, 3, 4, 5, 6] rfl (by decide) rfl rfl rfl rfl hl.1 (Nat.le_of_ble_eq_true rfl) dX7_lasts_11) (fun H locs hP hD hS => ?_)
  have hP : va_P (dC, dI) vwCl [(bM, .inr (7, [.int 0, .long tc, .ref b0, .int pd, .ref b1, .ref b2, .ref b3, .long be, .ref b4, .ref b5, .int fs])), (b0, .inl (cI, 7, .inl mr)), (b1, .inl (cI, 400, .inl mp)), (b2, .inl (cJ, 49, .inr (.inl ch))), (b3, .inl (cJ, 49, .inr (.inl la))), (b4, .inl (cJ, 128, .inr (.inl se))), (b5, .inl (cI, 13, .inl ta))] H := hP
  have hD : va_D A [(bM, .inr (7, [.int 0, .long tc, .ref b0, .int pd, .ref b1, .ref b2, .ref b3, .long be, .ref b4, .ref b5, .int fs])), (b0, .inl (cI, 7, .inl mr)), (b1, .inl (cI, 400, .inl mp)), (b2, .inl (cJ, 49, .inr (.inl ch))), (b3, .inl (cJ, 49, .inr (.inl la))), (b4, .inl (cJ, 128, .inr (.inl se))), (b5, .inl (cI, 13, .inl ta))] := hD
  refine lv_if_ne (tgt := 21) hx hb dX7_lasts_14 (by decide) (fun hc3 => ?_) (fun hc3 => ?_)
  · have hf := q_nif hf hc3
    refine lv_aload_n hx hb dX7_lasts_21 rfl (lv_at hl 0 rfl) ?_
    refine lv_iload_n hx hb dX7_lasts_22 rfl (lv_at hl 3 rfl) ?_
    obtain ⟨ch4, la5, be6, hg7, hf⟩ := q_e3 hf
    refine q_endV (wc := [(bM, .inr (7, [.int 0, .long tc, .ref b0, .int pd, .ref b1, .ref b2, .ref b3, .long be, .ref b4, .ref b5, .int fs])), (b0, .inl (cI, 7, .inl mr)), (b1, .inl (cI, 400, .inl mp)), (b2, .inl (cJ, 49, .inr (.inl ch))), (b3, .inl (cJ, 49, .inr (.inl la))), (b4, .inl (cJ, 128, .inr (.inl se))), (b5, .inl (cI, 13, .inl ta))]) (wr := []) (w1 := [(bM, .inr (7, [.int 0, .long tc, .ref b0, .int pd, .ref b1, .ref b2, .ref b3, .long be6, .ref b4, .ref b5, .int fs])), (b0, .inl (cI, 7, .inl mr)), (b1, .inl (cI, 400, .inl mp)), (b2, .inl (cJ, 49, .inr (.inl ch4))), (b3, .inl (cJ, 49, .inr (.inl la5))), (b4, .inl (cJ, 128, .inr (.inl se))), (b5, .inl (cI, 13, .inl ta))]) C0 hP hD hS [0, 1, 2, 3, 4, 5, 6] [] rfl rfl (by decide) (by decide) (q_runV (TT := TX7) (N := 11) (ci := 7) (q0 := 0) C0 (c_X7_works (l := l) hg7) (cwV 1 hts gX7_lasts_X7_works rfl rfl rfl (by decide +kernel) ⟨Nat.le_of_ble_eq_true rfl, Nat.le_of_ble_eq_true rfl⟩) hP hD hS [0, 1, 2, 3, 4, 5, 6] rfl (by decide) rfl rfl rfl rfl hl.1 (Nat.le_of_ble_eq_true rfl) dX7_lasts_23) (fun H locs hP hD hS => ?_)
    have hP : va_P (dC, dI) vwCl [(bM, .inr (7, [.int 0, .long tc, .ref b0, .int pd, .ref b1, .ref b2, .ref b3, .long be6, .ref b4, .ref b5, .int fs])), (b0, .inl (cI, 7, .inl mr)), (b1, .inl (cI, 400, .inl mp)), (b2, .inl (cJ, 49, .inr (.inl ch4))), (b3, .inl (cJ, 49, .inr (.inl la5))), (b4, .inl (cJ, 128, .inr (.inl se))), (b5, .inl (cI, 13, .inl ta))] H := hP
    have hD : va_D A [(bM, .inr (7, [.int 0, .long tc, .ref b0, .int pd, .ref b1, .ref b2, .ref b3, .long be6, .ref b4, .ref b5, .int fs])), (b0, .inl (cI, 7, .inl mr)), (b1, .inl (cI, 400, .inl mp)), (b2, .inl (cJ, 49, .inr (.inl ch4))), (b3, .inl (cJ, 49, .inr (.inl la5))), (b4, .inl (cJ, 128, .inr (.inl se))), (b5, .inl (cI, 13, .inl ta))] := hD
    refine lv_aload_n hx hb dX7_lasts_26 rfl (lv_at hl 0 rfl) ?_
    refine lv_aload_n hx hb dX7_lasts_27 rfl (lv_at hl 0 rfl) ?_
    refine q_get (TT := TX7) C0 in_X7_lasts_X7 6 m_X7_lasts_f20 hP 0 rfl rfl (by decide) rfl rfl dX7_lasts_28 ?_
    refine lv_bipush (v := 7) hx hb dX7_lasts_31 (by decide) ?_
    refine lv_iload_n hx hb dX7_lasts_33 rfl (lv_at hl 1 rfl) ?_
    refine lv_imul hx hb dX7_lasts_34 ?_
    refine lv_iload_n hx hb dX7_lasts_35 rfl (lv_at hl 2 rfl) ?_
    refine lv_iadd hx hb dX7_lasts_36 ?_
    obtain ⟨hin8, hf⟩ := q_gd hf
    refine q_lald (v := la5 (Int32.toNatClampNeg ((7 * x1) + x2))) C0 hP 4 1 rfl rfl hin8 rfl dX7_lasts_37 ?_
    refine lv_iload hx hb dX7_lasts_38 (lv_at hl 4 rfl) ?_
    obtain ⟨r9, hg10, hf⟩ := q_e1 hf
    refine q_endL (wc := [(bM, .inr (7, [.int 0, .long tc, .ref b0, .int pd, .ref b1, .ref b2, .ref b3, .long be6, .ref b4, .ref b5, .int fs])), (b0, .inl (cI, 7, .inl mr)), (b1, .inl (cI, 400, .inl mp)), (b2, .inl (cJ, 49, .inr (.inl ch4))), (b3, .inl (cJ, 49, .inr (.inl la5))), (b4, .inl (cJ, 128, .inr (.inl se))), (b5, .inl (cI, 13, .inl ta))]) (wr := []) (w1 := [(bM, .inr (7, [.int 0, .long tc, .ref b0, .int pd, .ref b1, .ref b2, .ref b3, .long be6, .ref b4, .ref b5, .int fs])), (b0, .inl (cI, 7, .inl mr)), (b1, .inl (cI, 400, .inl mp)), (b2, .inl (cJ, 49, .inr (.inl ch4))), (b3, .inl (cJ, 49, .inr (.inl la5))), (b4, .inl (cJ, 128, .inr (.inl se))), (b5, .inl (cI, 13, .inl ta))]) (rv := r9) C0 hP hD hS [0, 1, 2, 3, 4, 5, 6] [] rfl rfl (by decide) (by decide) (q_runV (TT := TX7) (N := 11) (ci := 7) (q0 := 0) C0 (c_X7_part (l := l) hg10) (cwV 2 hts gX7_lasts_X7_part rfl rfl rfl (by decide +kernel) ⟨Nat.le_of_ble_eq_true rfl, Nat.le_of_ble_eq_true rfl⟩) hP hD hS [0, 1, 2, 3, 4, 5, 6] rfl (by decide) rfl rfl rfl rfl hl.1 (Nat.le_of_ble_eq_true rfl) dX7_lasts_40) (fun H locs hP hD hS => ?_)
    have hP : va_P (dC, dI) vwCl [(bM, .inr (7, [.int 0, .long tc, .ref b0, .int pd, .ref b1, .ref b2, .ref b3, .long be6, .ref b4, .ref b5, .int fs])), (b0, .inl (cI, 7, .inl mr)), (b1, .inl (cI, 400, .inl mp)), (b2, .inl (cJ, 49, .inr (.inl ch4))), (b3, .inl (cJ, 49, .inr (.inl la5))), (b4, .inl (cJ, 128, .inr (.inl se))), (b5, .inl (cI, 13, .inl ta))] H := hP
    have hD : va_D A [(bM, .inr (7, [.int 0, .long tc, .ref b0, .int pd, .ref b1, .ref b2, .ref b3, .long be6, .ref b4, .ref b5, .int fs])), (b0, .inl (cI, 7, .inl mr)), (b1, .inl (cI, 400, .inl mp)), (b2, .inl (cJ, 49, .inr (.inl ch4))), (b3, .inl (cJ, 49, .inr (.inl la5))), (b4, .inl (cJ, 128, .inr (.inl se))), (b5, .inl (cI, 13, .inl ta))] := hD
    obtain rfl := Option.some.inj hf
    exact q_retL C0 hP hD hS dX7_lasts_43
  · have hf := q_if hf hc3
    refine lv_ldc2 hx hb hown (hts _ m_X7_lasts_k80) dX7_lasts_17 ?_
    obtain rfl := Option.some.inj hf
    exact q_retL C0 hP hD hS dX7_lasts_20
set_option maxHeartbeats 4000000 in
set_option maxRecDepth 100000 in
theorem c_X7_lasts {l : Launch} {dC : Nat → ClassId} {dI : Nat → Nat → Nat} {cI cJ cZ : ClassId} {bM b0 b1 b2 b3 b4 b5 : Nat} {x1 : Int32} {x2 : Int32} {x3 : Int32} {x4 : Int32} {th : Int32} {tc : Int64} {mr : (Nat → Int32)} {pd : Int32} {mp : (Nat → Int32)} {ch : (Nat → Int64)} {la : (Nat → Int64)} {be : Int64} {se : (Nat → Int64)} {ta : (Nat → Int32)} {fs : Int32} {R : Int64 × Int32 × (Nat → Int64) × (Nat → Int64) × Int64} (hf : f_X7_lasts x1 x2 x3 x4 th tc mr pd mp ch la be se ta fs = some R) : q_M l yX7_lasts wsX7_lasts rmX7_lasts (dC, dI) (q_T cI cJ cZ) [.ref bM, .int x1, .int x2, .int x3, .int x4] [(bM, .inr (7, [.int th, .long tc, .ref b0, .int pd, .ref b1, .ref b2, .ref b3, .long be, .ref b4, .ref b5, .int fs])), (b0, .inl (cI, 7, .inl mr)), (b1, .inl (cI, 400, .inl mp)), (b2, .inl (cJ, 49, .inr (.inl ch))), (b3, .inl (cJ, 49, .inr (.inl la))), (b4, .inl (cJ, 128, .inr (.inl se))), (b5, .inl (cI, 13, .inl ta))] (qL (dC, dI) (q_T cI cJ cZ) [(bM, .inr (7, [.int R.2.1, .long tc, .ref b0, .int pd, .ref b1, .ref b2, .ref b3, .long R.2.2.2.2, .ref b4, .ref b5, .int fs])), (b0, .inl (cI, 7, .inl mr)), (b1, .inl (cI, 400, .inl mp)), (b2, .inl (cJ, 49, .inr (.inl R.2.2.1))), (b3, .inl (cJ, 49, .inr (.inl R.2.2.2.1))), (b4, .inl (cJ, 128, .inr (.inl se))), (b5, .inl (cI, 13, .inl ta))] R.1) := by
  refine q_body (cc := cX7_lasts) (maxL := 5) (ret := (some .long)) (by decide) rfl (Nat.le_of_ble_eq_true rfl) ?_
  intro p e s m args below meth c A C0 ls hP hD hS hl
  have hl : lv_has ls 5 [(0, .ref bM), (1, .int x1), (2, .int x2), (3, .int x3), (4, .int x4)] := hl
  exact B_X7_lasts_0 C0 hf s.heap [] ls hP hD hS hl
/-! ## RungPlayModel.weight -/
abbrev rmX7_weight : Room := { frames := 2, cells := 0, slots := 0, locals := 55 }
theorem m_X7_weight_f32 : Cond.fieldLink RX7 32 RX7 "thrown" "I" ∈ wsX7_weight := by decide +kernel
theorem in_X7_weight_X7 : ∀ w ∈ wsX70, w ∈ wsX7_weight := by decide +kernel
theorem m_X7_weight_k80 : Cond.constantLong RX7 80 (-1000000000000000000) ∈ wsX7_weight := by decide +kernel
theorem m_X7_weight_f7 : Cond.fieldLink RX7 7 RX7 "rules" "[I" ∈ wsX7_weight := by decide +kernel
theorem m_X7_weight_f16 : Cond.fieldLink RX7 16 RX7 "chances" "[J" ∈ wsX7_weight := by decide +kernel
noncomputable def f_X7_weight (x1 : Int32) (x2 : Int32) (x3 : Int32) (x4 : Int32) (th : Int32) (tc : Int64) (mr : (Nat → Int32)) (pd : Int32) (mp : (Nat → Int32)) (ch : (Nat → Int64)) (la : (Nat → Int64)) (be : Int64) (se : (Nat → Int64)) (ta : (Nat → Int32)) (fs : Int32) : Option (Int64 × Int32 × (Nat → Int64) × (Nat → Int64) × Int64) :=
  (q_b1 (f_X7_isAsked x1 x2 x3 x4 0 tc mr pd mp ch la be se ta fs) (fun r1 => (if r1 = 0 then (some ((-1000000000000000000 : Int64), 0, ch, la, be)) else (q_b1 (f_X7_wonOf (mr 6) x1 x2 0 tc mr pd mp ch la be se ta fs) (fun r4 => (if r4 ≤ 0 then (q_b3 (f_X7_works x3 0 tc mr pd mp ch la be se ta fs) (fun ch7 la8 be9 => (if ((7 * x1) + 7) + x2 < 0 ∨ 49 ≤ Int32.toNatClampNeg (((7 * x1) + 7) + x2) then none else (if ((7 * x1) + x2) + 1 < 0 ∨ 49 ≤ Int32.toNatClampNeg (((7 * x1) + x2) + 1) then none else (q_b1 (f_X7_part ((ch7 (Int32.toNatClampNeg (((7 * x1) + 7) + x2))) - (ch7 (Int32.toNatClampNeg (((7 * x1) + x2) + 1)))) x4 0 tc mr pd mp ch7 la8 be9 se ta fs) (fun r13 => (some (r13, 0, ch7, la8, be9)))))))) else (some ((-1000000000000000000 : Int64), 0, ch, la, be))))))))
set_option maxHeartbeats 4000000 in
set_option maxRecDepth 100000 in
theorem B_X7_weight_0 {p : Program} {l : Launch} {e : Env} {s : State} {m : MethodId} {args : Array Value} {below : List Frame} {meth : Method} {c : Code} {A : Nat → Prop} {dC : Nat → ClassId} {dI : Nat → Nat → Nat} {cI cJ cZ : ClassId} {bM b0 b1 b2 b3 b4 b5 : Nat} (C0 : q_C p s m args meth c (dC, dI) (q_T cI cJ cZ) A RX7 wsX7_weight cX7_weight 5 (some .long)) {x1 : Int32} {x2 : Int32} {x3 : Int32} {x4 : Int32} {th : Int32} {tc : Int64} {mr : (Nat → Int32)} {pd : Int32} {mp : (Nat → Int32)} {ch : (Nat → Int64)} {la : (Nat → Int64)} {be : Int64} {se : (Nat → Int64)} {ta : (Nat → Int32)} {fs : Int32} {R : Int64 × Int32 × (Nat → Int64) × (Nat → Int64) × Int64} (hf : f_X7_weight x1 x2 x3 x4 th tc mr pd mp ch la be se ta fs = some R) : ∀ (H : Heap) (locs : List Loc) (ls : Array Slot), va_P (dC, dI) vwCl [(bM, .inr (7, [.int th, .long tc, .ref b0, .int pd, .ref b1, .ref b2, .ref b3, .long be, .ref b4, .ref b5, .int fs])), (b0, .inl (cI, 7, .inl mr)), (b1, .inl (cI, 400, .inl mp)), (b2, .inl (cJ, 49, .inr (.inl ch))), (b3, .inl (cJ, 49, .inr (.inl la))), (b4, .inl (cJ, 128, .inr (.inl se))), (b5, .inl (cI, 13, .inl ta))] H → va_D A [(bM, .inr (7, [.int th, .long tc, .ref b0, .int pd, .ref b1, .ref b2, .ref b3, .long be, .ref b4, .ref b5, .int fs])), (b0, .inl (cI, 7, .inl mr)), (b1, .inl (cI, 400, .inl mp)), (b2, .inl (cJ, 49, .inr (.inl ch))), (b3, .inl (cJ, 49, .inr (.inl la))), (b4, .inl (cJ, 128, .inr (.inl se))), (b5, .inl (cI, 13, .inl ta))] → va_S A s.heap H locs → lv_has ls 5 [(0, .ref bM), (1, .int x1), (2, .int x2), (3, .int x3), (4, .int x4)] → W p l e rmX7_weight s m args below meth c H locs 0 0 (MQ below (qL (dC, dI) (q_T cI cJ cZ) [(bM, .inr (7, [.int R.2.1, .long tc, .ref b0, .int pd, .ref b1, .ref b2, .ref b3, .long R.2.2.2.2, .ref b4, .ref b5, .int fs])), (b0, .inl (cI, 7, .inl mr)), (b1, .inl (cI, 400, .inl mp)), (b2, .inl (cJ, 49, .inr (.inl R.2.2.1))), (b3, .inl (cJ, 49, .inr (.inl R.2.2.2.1))), (b4, .inl (cJ, 128, .inr (.inl se))), (b5, .inl (cI, 13, .inl ta))] R.1 A) args s 0 0 A) (F0 m 0 ls []) := by
  obtain ⟨hx, hb, hml, hown, hts, hrt, hlk, hK, hX, hA⟩ := id C0
  intro H locs ls hP hD hS hl
  unfold f_X7_weight at hf
  refine lv_aload_n hx hb dX7_weight_0 rfl (lv_at hl 0 rfl) ?_
  refine lv_iconst (v := 0) hx hb dX7_weight_1 (by decide) ?_
  refine q_put (ty := .int) (TT := TX7) C0 in_X7_weight_X7 tyX7 tyX7_ok nmX7 0 m_X7_weight_f32 hP hD hS 0 rfl rfl (by decide) rfl rfl (by decide +kernel) rfl rfl (Nat.le_of_ble_eq_true rfl) dX7_weight_2 (fun H locs hP hD hS => ?_)
  have hP : va_P (dC, dI) vwCl [(bM, .inr (7, [.int 0, .long tc, .ref b0, .int pd, .ref b1, .ref b2, .ref b3, .long be, .ref b4, .ref b5, .int fs])), (b0, .inl (cI, 7, .inl mr)), (b1, .inl (cI, 400, .inl mp)), (b2, .inl (cJ, 49, .inr (.inl ch))), (b3, .inl (cJ, 49, .inr (.inl la))), (b4, .inl (cJ, 128, .inr (.inl se))), (b5, .inl (cI, 13, .inl ta))] H := hP
  have hD : va_D A [(bM, .inr (7, [.int 0, .long tc, .ref b0, .int pd, .ref b1, .ref b2, .ref b3, .long be, .ref b4, .ref b5, .int fs])), (b0, .inl (cI, 7, .inl mr)), (b1, .inl (cI, 400, .inl mp)), (b2, .inl (cJ, 49, .inr (.inl ch))), (b3, .inl (cJ, 49, .inr (.inl la))), (b4, .inl (cJ, 128, .inr (.inl se))), (b5, .inl (cI, 13, .inl ta))] := hD
  refine lv_aload_n hx hb dX7_weight_5 rfl (lv_at hl 0 rfl) ?_
  refine lv_iload_n hx hb dX7_weight_6 rfl (lv_at hl 1 rfl) ?_
  refine lv_iload_n hx hb dX7_weight_7 rfl (lv_at hl 2 rfl) ?_
  refine lv_iload_n hx hb dX7_weight_8 rfl (lv_at hl 3 rfl) ?_
  refine lv_iload hx hb dX7_weight_9 (lv_at hl 4 rfl) ?_
  obtain ⟨r1, hg2, hf⟩ := q_e1 hf
  refine q_endI (wc := [(bM, .inr (7, [.int 0, .long tc, .ref b0, .int pd, .ref b1, .ref b2, .ref b3, .long be, .ref b4, .ref b5, .int fs])), (b0, .inl (cI, 7, .inl mr)), (b1, .inl (cI, 400, .inl mp)), (b2, .inl (cJ, 49, .inr (.inl ch))), (b3, .inl (cJ, 49, .inr (.inl la))), (b4, .inl (cJ, 128, .inr (.inl se))), (b5, .inl (cI, 13, .inl ta))]) (wr := []) (w1 := [(bM, .inr (7, [.int 0, .long tc, .ref b0, .int pd, .ref b1, .ref b2, .ref b3, .long be, .ref b4, .ref b5, .int fs])), (b0, .inl (cI, 7, .inl mr)), (b1, .inl (cI, 400, .inl mp)), (b2, .inl (cJ, 49, .inr (.inl ch))), (b3, .inl (cJ, 49, .inr (.inl la))), (b4, .inl (cJ, 128, .inr (.inl se))), (b5, .inl (cI, 13, .inl ta))]) (rv := r1) C0 hP hD hS [0, 1, 2, 3, 4, 5, 6] [] rfl rfl (by decide) (by decide) (q_runV (TT := TX7) (N := 11) (ci := 7) (q0 := 0) C0 (c_X7_isAsked (l := l) hg2) (cwV 4 hts gX7_weight_X7_isAsked rfl rfl rfl (by decide +kernel) ⟨Nat.le_of_ble_eq_true rfl, Nat.le_of_ble_eq_true rfl⟩) hP hD hS [0, 1, 2, 3, 4, 5, 6] rfl (by decide) rfl rfl rfl rfl hl.1 (Nat.le_of_ble_eq_true rfl) dX7_weight_11) (fun H locs hP hD hS => ?_)
  have hP : va_P (dC, dI) vwCl [(bM, .inr (7, [.int 0, .long tc, .ref b0, .int pd, .ref b1, .ref b2, .ref b3, .long be, .ref b4, .ref b5, .int fs])), (b0, .inl (cI, 7, .inl mr)), (b1, .inl (cI, 400, .inl mp)), (b2, .inl (cJ, 49, .inr (.inl ch))), (b3, .inl (cJ, 49, .inr (.inl la))), (b4, .inl (cJ, 128, .inr (.inl se))), (b5, .inl (cI, 13, .inl ta))] H := hP
  have hD : va_D A [(bM, .inr (7, [.int 0, .long tc, .ref b0, .int pd, .ref b1, .ref b2, .ref b3, .long be, .ref b4, .ref b5, .int fs])), (b0, .inl (cI, 7, .inl mr)), (b1, .inl (cI, 400, .inl mp)), (b2, .inl (cJ, 49, .inr (.inl ch))), (b3, .inl (cJ, 49, .inr (.inl la))), (b4, .inl (cJ, 128, .inr (.inl se))), (b5, .inl (cI, 13, .inl ta))] := hD
  refine lv_if_eq (tgt := 33) hx hb dX7_weight_14 (by decide) (fun hc3 => ?_) (fun hc3 => ?_)
  · have hf := q_if hf hc3
    refine lv_ldc2 hx hb hown (hts _ m_X7_weight_k80) dX7_weight_33 ?_
    obtain rfl := Option.some.inj hf
    exact q_retL C0 hP hD hS dX7_weight_36
  · have hf := q_nif hf hc3
    refine lv_aload_n hx hb dX7_weight_17 rfl (lv_at hl 0 rfl) ?_
    refine lv_aload_n hx hb dX7_weight_18 rfl (lv_at hl 0 rfl) ?_
    refine q_get (TT := TX7) C0 in_X7_weight_X7 2 m_X7_weight_f7 hP 0 rfl rfl (by decide) rfl rfl dX7_weight_19 ?_
    refine lv_bipush (v := 6) hx hb dX7_weight_22 (by decide) ?_
    refine q_iald (v := mr 6) C0 hP 1 0 rfl rfl (by unfold vp_in; decide) rfl dX7_weight_24 ?_
    refine lv_iload_n hx hb dX7_weight_25 rfl (lv_at hl 1 rfl) ?_
    refine lv_iload_n hx hb dX7_weight_26 rfl (lv_at hl 2 rfl) ?_
    obtain ⟨r4, hg5, hf⟩ := q_e1 hf
    refine q_endI (wc := [(bM, .inr (7, [.int 0, .long tc, .ref b0, .int pd, .ref b1, .ref b2, .ref b3, .long be, .ref b4, .ref b5, .int fs])), (b0, .inl (cI, 7, .inl mr)), (b1, .inl (cI, 400, .inl mp)), (b2, .inl (cJ, 49, .inr (.inl ch))), (b3, .inl (cJ, 49, .inr (.inl la))), (b4, .inl (cJ, 128, .inr (.inl se))), (b5, .inl (cI, 13, .inl ta))]) (wr := []) (w1 := [(bM, .inr (7, [.int 0, .long tc, .ref b0, .int pd, .ref b1, .ref b2, .ref b3, .long be, .ref b4, .ref b5, .int fs])), (b0, .inl (cI, 7, .inl mr)), (b1, .inl (cI, 400, .inl mp)), (b2, .inl (cJ, 49, .inr (.inl ch))), (b3, .inl (cJ, 49, .inr (.inl la))), (b4, .inl (cJ, 128, .inr (.inl se))), (b5, .inl (cI, 13, .inl ta))]) (rv := r4) C0 hP hD hS [0, 1, 2, 3, 4, 5, 6] [] rfl rfl (by decide) (by decide) (q_runV (TT := TX7) (N := 11) (ci := 7) (q0 := 0) C0 (c_X7_wonOf (l := l) hg5) (cwV 3 hts gX7_weight_X7_wonOf rfl rfl rfl (by decide +kernel) ⟨Nat.le_of_ble_eq_true rfl, Nat.le_of_ble_eq_true rfl⟩) hP hD hS [0, 1, 2, 3, 4, 5, 6] rfl (by decide) rfl rfl rfl rfl hl.1 (Nat.le_of_ble_eq_true rfl) dX7_weight_27) (fun H locs hP hD hS => ?_)
    have hP : va_P (dC, dI) vwCl [(bM, .inr (7, [.int 0, .long tc, .ref b0, .int pd, .ref b1, .ref b2, .ref b3, .long be, .ref b4, .ref b5, .int fs])), (b0, .inl (cI, 7, .inl mr)), (b1, .inl (cI, 400, .inl mp)), (b2, .inl (cJ, 49, .inr (.inl ch))), (b3, .inl (cJ, 49, .inr (.inl la))), (b4, .inl (cJ, 128, .inr (.inl se))), (b5, .inl (cI, 13, .inl ta))] H := hP
    have hD : va_D A [(bM, .inr (7, [.int 0, .long tc, .ref b0, .int pd, .ref b1, .ref b2, .ref b3, .long be, .ref b4, .ref b5, .int fs])), (b0, .inl (cI, 7, .inl mr)), (b1, .inl (cI, 400, .inl mp)), (b2, .inl (cJ, 49, .inr (.inl ch))), (b3, .inl (cJ, 49, .inr (.inl la))), (b4, .inl (cJ, 128, .inr (.inl se))), (b5, .inl (cI, 13, .inl ta))] := hD
    refine lv_if_le (tgt := 37) hx hb dX7_weight_30 (by decide) (fun hc6 => ?_) (fun hc6 => ?_)
    · have hf := q_if hf hc6
      refine lv_aload_n hx hb dX7_weight_37 rfl (lv_at hl 0 rfl) ?_
      refine lv_iload_n hx hb dX7_weight_38 rfl (lv_at hl 3 rfl) ?_
      obtain ⟨ch7, la8, be9, hg10, hf⟩ := q_e3 hf
      refine q_endV (wc := [(bM, .inr (7, [.int 0, .long tc, .ref b0, .int pd, .ref b1, .ref b2, .ref b3, .long be, .ref b4, .ref b5, .int fs])), (b0, .inl (cI, 7, .inl mr)), (b1, .inl (cI, 400, .inl mp)), (b2, .inl (cJ, 49, .inr (.inl ch))), (b3, .inl (cJ, 49, .inr (.inl la))), (b4, .inl (cJ, 128, .inr (.inl se))), (b5, .inl (cI, 13, .inl ta))]) (wr := []) (w1 := [(bM, .inr (7, [.int 0, .long tc, .ref b0, .int pd, .ref b1, .ref b2, .ref b3, .long be9, .ref b4, .ref b5, .int fs])), (b0, .inl (cI, 7, .inl mr)), (b1, .inl (cI, 400, .inl mp)), (b2, .inl (cJ, 49, .inr (.inl ch7))), (b3, .inl (cJ, 49, .inr (.inl la8))), (b4, .inl (cJ, 128, .inr (.inl se))), (b5, .inl (cI, 13, .inl ta))]) C0 hP hD hS [0, 1, 2, 3, 4, 5, 6] [] rfl rfl (by decide) (by decide) (q_runV (TT := TX7) (N := 11) (ci := 7) (q0 := 0) C0 (c_X7_works (l := l) hg10) (cwV 1 hts gX7_weight_X7_works rfl rfl rfl (by decide +kernel) ⟨Nat.le_of_ble_eq_true rfl, Nat.le_of_ble_eq_true rfl⟩) hP hD hS [0, 1, 2, 3, 4, 5, 6] rfl (by decide) rfl rfl rfl rfl hl.1 (Nat.le_of_ble_eq_true rfl) dX7_weight_39) (fun H locs hP hD hS => ?_)
      have hP : va_P (dC, dI) vwCl [(bM, .inr (7, [.int 0, .long tc, .ref b0, .int pd, .ref b1, .ref b2, .ref b3, .long be9, .ref b4, .ref b5, .int fs])), (b0, .inl (cI, 7, .inl mr)), (b1, .inl (cI, 400, .inl mp)), (b2, .inl (cJ, 49, .inr (.inl ch7))), (b3, .inl (cJ, 49, .inr (.inl la8))), (b4, .inl (cJ, 128, .inr (.inl se))), (b5, .inl (cI, 13, .inl ta))] H := hP
      have hD : va_D A [(bM, .inr (7, [.int 0, .long tc, .ref b0, .int pd, .ref b1, .ref b2, .ref b3, .long be9, .ref b4, .ref b5, .int fs])), (b0, .inl (cI, 7, .inl mr)), (b1, .inl (cI, 400, .inl mp)), (b2, .inl (cJ, 49, .inr (.inl ch7))), (b3, .inl (cJ, 49, .inr (.inl la8))), (b4, .inl (cJ, 128, .inr (.inl se))), (b5, .inl (cI, 13, .inl ta))] := hD
      refine lv_aload_n hx hb dX7_weight_42 rfl (lv_at hl 0 rfl) ?_
      refine lv_aload_n hx hb dX7_weight_43 rfl (lv_at hl 0 rfl) ?_
      refine q_get (TT := TX7) C0 in_X7_weight_X7 5 m_X7_weight_f16 hP 0 rfl rfl (by decide) rfl rfl dX7_weight_44 ?_
      refine lv_bipush (v := 7) hx hb dX7_weight_47 (by decide) ?_
      refine lv_iload_n hx hb dX7_weight_49 rfl (lv_at hl 1 rfl) ?_
      refine lv_imul hx hb dX7_weight_50 ?_
      refine lv_bipush (v := 7) hx hb dX7_weight_51 (by decide) ?_
      refine lv_iadd hx hb dX7_weight_53 ?_
      refine lv_iload_n hx hb dX7_weight_54 rfl (lv_at hl 2 rfl) ?_
      refine lv_iadd hx hb dX7_weight_55 ?_
      obtain ⟨hin11, hf⟩ := q_gd hf
      refine q_lald (v := ch7 (Int32.toNatClampNeg (((7 * x1) + 7) + x2))) C0 hP 3 1 rfl rfl hin11 rfl dX7_weight_56 ?_
      refine lv_aload_n hx hb dX7_weight_57 rfl (lv_at hl 0 rfl) ?_
      refine q_get (TT := TX7) C0 in_X7_weight_X7 5 m_X7_weight_f16 hP 0 rfl rfl (by decide) rfl rfl dX7_weight_58 ?_
      refine lv_bipush (v := 7) hx hb dX7_weight_61 (by decide) ?_
      refine lv_iload_n hx hb dX7_weight_63 rfl (lv_at hl 1 rfl) ?_
      refine lv_imul hx hb dX7_weight_64 ?_
      refine lv_iload_n hx hb dX7_weight_65 rfl (lv_at hl 2 rfl) ?_
      refine lv_iadd hx hb dX7_weight_66 ?_
      refine lv_iconst (v := 1) hx hb dX7_weight_67 (by decide) ?_
      refine lv_iadd hx hb dX7_weight_68 ?_
      obtain ⟨hin12, hf⟩ := q_gd hf
      refine q_lald (v := ch7 (Int32.toNatClampNeg (((7 * x1) + x2) + 1))) C0 hP 3 1 rfl rfl hin12 rfl dX7_weight_69 ?_
      refine lv_lsub hx hb dX7_weight_70 ?_
      refine lv_iload hx hb dX7_weight_71 (lv_at hl 4 rfl) ?_
      obtain ⟨r13, hg14, hf⟩ := q_e1 hf
      refine q_endL (wc := [(bM, .inr (7, [.int 0, .long tc, .ref b0, .int pd, .ref b1, .ref b2, .ref b3, .long be9, .ref b4, .ref b5, .int fs])), (b0, .inl (cI, 7, .inl mr)), (b1, .inl (cI, 400, .inl mp)), (b2, .inl (cJ, 49, .inr (.inl ch7))), (b3, .inl (cJ, 49, .inr (.inl la8))), (b4, .inl (cJ, 128, .inr (.inl se))), (b5, .inl (cI, 13, .inl ta))]) (wr := []) (w1 := [(bM, .inr (7, [.int 0, .long tc, .ref b0, .int pd, .ref b1, .ref b2, .ref b3, .long be9, .ref b4, .ref b5, .int fs])), (b0, .inl (cI, 7, .inl mr)), (b1, .inl (cI, 400, .inl mp)), (b2, .inl (cJ, 49, .inr (.inl ch7))), (b3, .inl (cJ, 49, .inr (.inl la8))), (b4, .inl (cJ, 128, .inr (.inl se))), (b5, .inl (cI, 13, .inl ta))]) (rv := r13) C0 hP hD hS [0, 1, 2, 3, 4, 5, 6] [] rfl rfl (by decide) (by decide) (q_runV (TT := TX7) (N := 11) (ci := 7) (q0 := 0) C0 (c_X7_part (l := l) hg14) (cwV 2 hts gX7_weight_X7_part rfl rfl rfl (by decide +kernel) ⟨Nat.le_of_ble_eq_true rfl, Nat.le_of_ble_eq_true rfl⟩) hP hD hS [0, 1, 2, 3, 4, 5, 6] rfl (by decide) rfl rfl rfl rfl hl.1 (Nat.le_of_ble_eq_true rfl) dX7_weight_73) (fun H locs hP hD hS => ?_)
      have hP : va_P (dC, dI) vwCl [(bM, .inr (7, [.int 0, .long tc, .ref b0, .int pd, .ref b1, .ref b2, .ref b3, .long be9, .ref b4, .ref b5, .int fs])), (b0, .inl (cI, 7, .inl mr)), (b1, .inl (cI, 400, .inl mp)), (b2, .inl (cJ, 49, .inr (.inl ch7))), (b3, .inl (cJ, 49, .inr (.inl la8))), (b4, .inl (cJ, 128, .inr (.inl se))), (b5, .inl (cI, 13, .inl ta))] H := hP
      have hD : va_D A [(bM, .inr (7, [.int 0, .long tc, .ref b0, .int pd, .ref b1, .ref b2, .ref b3, .long be9, .ref b4, .ref b5, .int fs])), (b0, .inl (cI, 7, .inl mr)), (b1, .inl (cI, 400, .inl mp)), (b2, .inl (cJ, 49, .inr (.inl ch7))), (b3, .inl (cJ, 49, .inr (.inl la8))), (b4, .inl (cJ, 128, .inr (.inl se))), (b5, .inl (cI, 13, .inl ta))] := hD
      obtain rfl := Option.some.inj hf
      exact q_retL C0 hP hD hS dX7_weight_76
    · have hf := q_nif hf hc6
      refine lv_ldc2 hx hb hown (hts _ m_X7_weight_k80) dX7_weight_33 ?_
      obtain rfl := Option.some.inj hf
      exact q_retL C0 hP hD hS dX7_weight_36
set_option maxHeartbeats 4000000 in
set_option maxRecDepth 100000 in
theorem c_X7_weight {l : Launch} {dC : Nat → ClassId} {dI : Nat → Nat → Nat} {cI cJ cZ : ClassId} {bM b0 b1 b2 b3 b4 b5 : Nat} {x1 : Int32} {x2 : Int32} {x3 : Int32} {x4 : Int32} {th : Int32} {tc : Int64} {mr : (Nat → Int32)} {pd : Int32} {mp : (Nat → Int32)} {ch : (Nat → Int64)} {la : (Nat → Int64)} {be : Int64} {se : (Nat → Int64)} {ta : (Nat → Int32)} {fs : Int32} {R : Int64 × Int32 × (Nat → Int64) × (Nat → Int64) × Int64} (hf : f_X7_weight x1 x2 x3 x4 th tc mr pd mp ch la be se ta fs = some R) : q_M l yX7_weight wsX7_weight rmX7_weight (dC, dI) (q_T cI cJ cZ) [.ref bM, .int x1, .int x2, .int x3, .int x4] [(bM, .inr (7, [.int th, .long tc, .ref b0, .int pd, .ref b1, .ref b2, .ref b3, .long be, .ref b4, .ref b5, .int fs])), (b0, .inl (cI, 7, .inl mr)), (b1, .inl (cI, 400, .inl mp)), (b2, .inl (cJ, 49, .inr (.inl ch))), (b3, .inl (cJ, 49, .inr (.inl la))), (b4, .inl (cJ, 128, .inr (.inl se))), (b5, .inl (cI, 13, .inl ta))] (qL (dC, dI) (q_T cI cJ cZ) [(bM, .inr (7, [.int R.2.1, .long tc, .ref b0, .int pd, .ref b1, .ref b2, .ref b3, .long R.2.2.2.2, .ref b4, .ref b5, .int fs])), (b0, .inl (cI, 7, .inl mr)), (b1, .inl (cI, 400, .inl mp)), (b2, .inl (cJ, 49, .inr (.inl R.2.2.1))), (b3, .inl (cJ, 49, .inr (.inl R.2.2.2.1))), (b4, .inl (cJ, 128, .inr (.inl se))), (b5, .inl (cI, 13, .inl ta))] R.1) := by
  refine q_body (cc := cX7_weight) (maxL := 5) (ret := (some .long)) (by decide) rfl (Nat.le_of_ble_eq_true rfl) ?_
  intro p e s m args below meth c A C0 ls hP hD hS hl
  have hl : lv_has ls 5 [(0, .ref bM), (1, .int x1), (2, .int x2), (3, .int x3), (4, .int x4)] := hl
  exact B_X7_weight_0 C0 hf s.heap [] ls hP hD hS hl
/-! ## RungPlayModel.heaviest -/
abbrev rmX7_heaviest : Room := { frames := 2, cells := 0, slots := 0, locals := 55 }
theorem m_X7_heaviest_f7 : Cond.fieldLink RX7 7 RX7 "rules" "[I" ∈ wsX7_heaviest := by decide +kernel
theorem in_X7_heaviest_X7 : ∀ w ∈ wsX70, w ∈ wsX7_heaviest := by decide +kernel
theorem m_X7_heaviest_f16 : Cond.fieldLink RX7 16 RX7 "chances" "[J" ∈ wsX7_heaviest := by decide +kernel
theorem m_X7_heaviest_f32 : Cond.fieldLink RX7 32 RX7 "thrown" "I" ∈ wsX7_heaviest := by decide +kernel
theorem m_X7_heaviest_k90 : Cond.constantLong RX7 90 (-1) ∈ wsX7_heaviest := by decide +kernel
noncomputable def b_X7_heaviest_137 (k : (Int64 × Int32 × Int32) → Option (Int64 × Int32 × Int32)) (x2 : Int32) (x3 : Int64) (x5 : Int32) (x6 : Int32) (x7 : Int32) (th : Int32) (tc : Int64) (mr : (Nat → Int32)) (pd : Int32) (mp : (Nat → Int32)) (ch : (Nat → Int64)) (la : (Nat → Int64)) (be : Int64) (se : (Nat → Int64)) (ta : (Nat → Int32)) (fs : Int32) : Option (Int64 × Int32 × Int32) :=
  (k (x3, x5, x7 + 1))
noncomputable def b_X7_heaviest_54 (k : (Int64 × Int32 × Int32) → Option (Int64 × Int32 × Int32)) (x2 : Int32) (x3 : Int64) (x5 : Int32) (x6 : Int32) (x7 : Int32) (th : Int32) (tc : Int64) (mr : (Nat → Int32)) (pd : Int32) (mp : (Nat → Int32)) (ch : (Nat → Int64)) (la : (Nat → Int64)) (be : Int64) (se : (Nat → Int64)) (ta : (Nat → Int32)) (fs : Int32) : Option (Int64 × Int32 × Int32) :=
  (if (mr 2) ≤ x7 then (some (x3, x5, x7)) else (if ((7 * x6) + 7) + x7 < 0 ∨ 49 ≤ Int32.toNatClampNeg (((7 * x6) + 7) + x7) then none else (if ((7 * x6) + x7) + 1 < 0 ∨ 49 ≤ Int32.toNatClampNeg (((7 * x6) + x7) + 1) then none else (q_b1 (f_X7_wonOf (mr 6) x6 x7 th tc mr pd mp ch la be se ta fs) (fun r4 => (if r4 = 0 then (if (lg_cmp ((ch (Int32.toNatClampNeg (((7 * x6) + 7) + x7))) - (ch (Int32.toNatClampNeg (((7 * x6) + x7) + 1)))) x3) ≤ 0 then (b_X7_heaviest_137 k x2 x3 x5 x6 x7 th tc mr pd mp ch la be se ta fs) else (b_X7_heaviest_137 k x2 ((ch (Int32.toNatClampNeg (((7 * x6) + 7) + x7))) - (ch (Int32.toNatClampNeg (((7 * x6) + x7) + 1)))) ((7 * x6) + x7) x6 x7 th tc mr pd mp ch la be se ta fs)) else (b_X7_heaviest_137 k x2 x3 x5 x6 x7 th tc mr pd mp ch la be se ta fs)))))))
noncomputable def l_X7_heaviest_54 (x2 : Int32) (x6 : Int32) (th : Int32) (tc : Int64) (mr : (Nat → Int32)) (pd : Int32) (mp : (Nat → Int32)) (ch : (Nat → Int64)) (la : (Nat → Int64)) (be : Int64) (se : (Nat → Int64)) (ta : (Nat → Int32)) (fs : Int32) (n : Nat) : (Int64 × Int32 × Int32) → Option (Int64 × Int32 × Int32) :=
  Nat.rec (fun _ => none) (fun _ k q => b_X7_heaviest_54 k x2 q.1 q.2.1 x6 q.2.2 th tc mr pd mp ch la be se ta fs) n
noncomputable def b_X7_heaviest_40 (k : (Int64 × Int32 × Int32) → Option (Int64 × Int32 × Int32)) (x2 : Int32) (x3 : Int64) (x5 : Int32) (x6 : Int32) (th : Int32) (tc : Int64) (mr : (Nat → Int32)) (pd : Int32) (mp : (Nat → Int32)) (ch : (Nat → Int64)) (la : (Nat → Int64)) (be : Int64) (se : (Nat → Int64)) (ta : (Nat → Int32)) (fs : Int32) : Option (Int64 × Int32 × Int32) :=
  (if (mr 2) ≤ x6 then (some (x3, x5, x6)) else (q_b3 (l_X7_heaviest_54 x2 x6 th tc mr pd mp ch la be se ta fs 1000 (x3, x5, 0)) (fun y9 y10 y11 => (k (y9, y10, x6 + 1)))))
noncomputable def l_X7_heaviest_40 (x2 : Int32) (th : Int32) (tc : Int64) (mr : (Nat → Int32)) (pd : Int32) (mp : (Nat → Int32)) (ch : (Nat → Int64)) (la : (Nat → Int64)) (be : Int64) (se : (Nat → Int64)) (ta : (Nat → Int32)) (fs : Int32) (n : Nat) : (Int64 × Int32 × Int32) → Option (Int64 × Int32 × Int32) :=
  Nat.rec (fun _ => none) (fun _ k q => b_X7_heaviest_40 k x2 q.1 q.2.1 q.2.2 th tc mr pd mp ch la be se ta fs) n
noncomputable def f_X7_heaviest (x1 : Int32) (x2 : Int32) (th : Int32) (tc : Int64) (mr : (Nat → Int32)) (pd : Int32) (mp : (Nat → Int32)) (ch : (Nat → Int64)) (la : (Nat → Int64)) (be : Int64) (se : (Nat → Int64)) (ta : (Nat → Int32)) (fs : Int32) : Option (Int32 × Int32 × (Nat → Int64) × (Nat → Int64) × Int64) :=
  (q_b1 (f_X7_in x1 0 1) (fun r13 => (if r13 = 0 then (some ((-1), 0, ch, la, be)) else (q_b1 (f_X7_in x2 0 1) (fun r16 => (if r16 = 0 then (some ((-1), 0, ch, la, be)) else (q_b3 (f_X7_works x1 0 tc mr pd mp ch la be se ta fs) (fun ch19 la20 be21 => (q_b3 (l_X7_heaviest_40 x2 0 tc mr pd mp ch19 la20 be21 se ta fs 1000 ((-1 : Int64), 0, 0)) (fun y23 y24 y25 => (if x2 = 0 then (some (y24 / 7, 0, ch19, la20, be21)) else (some (y24 - y24 / 7 * 7, 0, ch19, la20, be21)))))))))))))
set_option maxHeartbeats 4000000 in
set_option maxRecDepth 100000 in
theorem B_X7_heaviest_137 {p : Program} {l : Launch} {e : Env} {s : State} {m : MethodId} {args : Array Value} {below : List Frame} {meth : Method} {c : Code} {A : Nat → Prop} {dC : Nat → ClassId} {dI : Nat → Nat → Nat} {cI cJ cZ : ClassId} {bM b0 b1 b2 b3 b4 b5 : Nat} (C0 : q_C p s m args meth c (dC, dI) (q_T cI cJ cZ) A RX7 wsX7_heaviest cX7_heaviest 10 (some .int)) {Q : State → Prop} {k : (Int64 × Int32 × Int32) → Option (Int64 × Int32 × Int32)} {x2 : Int32} {x3 : Int64} {x5 : Int32} {x6 : Int32} {x7 : Int32} {th : Int32} {tc : Int64} {mr : (Nat → Int32)} {pd : Int32} {mp : (Nat → Int32)} {ch : (Nat → Int64)} {la : (Nat → Int64)} {be : Int64} {se : (Nat → Int64)} {ta : (Nat → Int32)} {fs : Int32} {R : Int64 × Int32 × Int32} (hk : ∀ (v0 : Int64) (v1 : Int32) (v2 : Int32), k (v0, v1, v2) = some R → ∀ (H : Heap) (locs : List Loc) (ls : Array Slot), va_P (dC, dI) vwCl [(bM, .inr (7, [.int th, .long tc, .ref b0, .int pd, .ref b1, .ref b2, .ref b3, .long be, .ref b4, .ref b5, .int fs])), (b0, .inl (cI, 7, .inl mr)), (b1, .inl (cI, 400, .inl mp)), (b2, .inl (cJ, 49, .inr (.inl ch))), (b3, .inl (cJ, 49, .inr (.inl la))), (b4, .inl (cJ, 128, .inr (.inl se))), (b5, .inl (cI, 13, .inl ta))] H → va_D A [(bM, .inr (7, [.int th, .long tc, .ref b0, .int pd, .ref b1, .ref b2, .ref b3, .long be, .ref b4, .ref b5, .int fs])), (b0, .inl (cI, 7, .inl mr)), (b1, .inl (cI, 400, .inl mp)), (b2, .inl (cJ, 49, .inr (.inl ch))), (b3, .inl (cJ, 49, .inr (.inl la))), (b4, .inl (cJ, 128, .inr (.inl se))), (b5, .inl (cI, 13, .inl ta))] → va_S A s.heap H locs → lv_has ls 10 [(0, .ref bM), (2, .int x2), (3, .long v0), (5, .int v1), (6, .int x6), (7, .int v2)] → W p l e rmX7_heaviest s m args below meth c H locs 0 0 Q (F0 m 54 ls [])) (hq : ∀ (H : Heap) (locs : List Loc) (ls : Array Slot), va_P (dC, dI) vwCl [(bM, .inr (7, [.int th, .long tc, .ref b0, .int pd, .ref b1, .ref b2, .ref b3, .long be, .ref b4, .ref b5, .int fs])), (b0, .inl (cI, 7, .inl mr)), (b1, .inl (cI, 400, .inl mp)), (b2, .inl (cJ, 49, .inr (.inl ch))), (b3, .inl (cJ, 49, .inr (.inl la))), (b4, .inl (cJ, 128, .inr (.inl se))), (b5, .inl (cI, 13, .inl ta))] H → va_D A [(bM, .inr (7, [.int th, .long tc, .ref b0, .int pd, .ref b1, .ref b2, .ref b3, .long be, .ref b4, .ref b5, .int fs])), (b0, .inl (cI, 7, .inl mr)), (b1, .inl (cI, 400, .inl mp)), (b2, .inl (cJ, 49, .inr (.inl ch))), (b3, .inl (cJ, 49, .inr (.inl la))), (b4, .inl (cJ, 128, .inr (.inl se))), (b5, .inl (cI, 13, .inl ta))] → va_S A s.heap H locs → lv_has ls 10 [(0, .ref bM), (2, .int x2), (3, .long R.1), (5, .int R.2.1), (6, .int x6)] → W p l e rmX7_heaviest s m args below meth c H locs 0 0 Q (F0 m 143 ls [])) (hf : b_X7_heaviest_137 k x2 x3 x5 x6 x7 th tc mr pd mp ch la be se ta fs = some R) : ∀ (H : Heap) (locs : List Loc) (ls : Array Slot), va_P (dC, dI) vwCl [(bM, .inr (7, [.int th, .long tc, .ref b0, .int pd, .ref b1, .ref b2, .ref b3, .long be, .ref b4, .ref b5, .int fs])), (b0, .inl (cI, 7, .inl mr)), (b1, .inl (cI, 400, .inl mp)), (b2, .inl (cJ, 49, .inr (.inl ch))), (b3, .inl (cJ, 49, .inr (.inl la))), (b4, .inl (cJ, 128, .inr (.inl se))), (b5, .inl (cI, 13, .inl ta))] H → va_D A [(bM, .inr (7, [.int th, .long tc, .ref b0, .int pd, .ref b1, .ref b2, .ref b3, .long be, .ref b4, .ref b5, .int fs])), (b0, .inl (cI, 7, .inl mr)), (b1, .inl (cI, 400, .inl mp)), (b2, .inl (cJ, 49, .inr (.inl ch))), (b3, .inl (cJ, 49, .inr (.inl la))), (b4, .inl (cJ, 128, .inr (.inl se))), (b5, .inl (cI, 13, .inl ta))] → va_S A s.heap H locs → lv_has ls 10 [(0, .ref bM), (2, .int x2), (3, .long x3), (5, .int x5), (6, .int x6), (7, .int x7)] → W p l e rmX7_heaviest s m args below meth c H locs 0 0 Q (F0 m 137 ls []) := by
  obtain ⟨hx, hb, hml, hown, hts, hrt, hlk, hK, hX, hA⟩ := id C0
  intro H locs ls hP hD hS hl
  unfold b_X7_heaviest_137 at hf
  refine lv_iinc (v := x7 + 1) (lv' := [(7, .int (x7 + 1)), (0, .ref bM), (2, .int x2), (3, .long x3), (5, .int x5), (6, .int x6)]) hx hb dX7_heaviest_137 hl (k := 5) rfl rfl (by decide) rfl (fun ls hl => ?_)
  refine lv_goto (tgt := 54) hx hb dX7_heaviest_140 (by decide) ?_
  exact hk _ _ _ hf H locs ls hP hD hS (lv_sub hl [1, 2, 3, 4, 5, 0] rfl)
set_option maxHeartbeats 4000000 in
set_option maxRecDepth 100000 in
theorem B_X7_heaviest_54 {p : Program} {l : Launch} {e : Env} {s : State} {m : MethodId} {args : Array Value} {below : List Frame} {meth : Method} {c : Code} {A : Nat → Prop} {dC : Nat → ClassId} {dI : Nat → Nat → Nat} {cI cJ cZ : ClassId} {bM b0 b1 b2 b3 b4 b5 : Nat} (C0 : q_C p s m args meth c (dC, dI) (q_T cI cJ cZ) A RX7 wsX7_heaviest cX7_heaviest 10 (some .int)) {Q : State → Prop} {k : (Int64 × Int32 × Int32) → Option (Int64 × Int32 × Int32)} {x2 : Int32} {x3 : Int64} {x5 : Int32} {x6 : Int32} {x7 : Int32} {th : Int32} {tc : Int64} {mr : (Nat → Int32)} {pd : Int32} {mp : (Nat → Int32)} {ch : (Nat → Int64)} {la : (Nat → Int64)} {be : Int64} {se : (Nat → Int64)} {ta : (Nat → Int32)} {fs : Int32} {R : Int64 × Int32 × Int32} (hk : ∀ (v0 : Int64) (v1 : Int32) (v2 : Int32), k (v0, v1, v2) = some R → ∀ (H : Heap) (locs : List Loc) (ls : Array Slot), va_P (dC, dI) vwCl [(bM, .inr (7, [.int th, .long tc, .ref b0, .int pd, .ref b1, .ref b2, .ref b3, .long be, .ref b4, .ref b5, .int fs])), (b0, .inl (cI, 7, .inl mr)), (b1, .inl (cI, 400, .inl mp)), (b2, .inl (cJ, 49, .inr (.inl ch))), (b3, .inl (cJ, 49, .inr (.inl la))), (b4, .inl (cJ, 128, .inr (.inl se))), (b5, .inl (cI, 13, .inl ta))] H → va_D A [(bM, .inr (7, [.int th, .long tc, .ref b0, .int pd, .ref b1, .ref b2, .ref b3, .long be, .ref b4, .ref b5, .int fs])), (b0, .inl (cI, 7, .inl mr)), (b1, .inl (cI, 400, .inl mp)), (b2, .inl (cJ, 49, .inr (.inl ch))), (b3, .inl (cJ, 49, .inr (.inl la))), (b4, .inl (cJ, 128, .inr (.inl se))), (b5, .inl (cI, 13, .inl ta))] → va_S A s.heap H locs → lv_has ls 10 [(0, .ref bM), (2, .int x2), (3, .long v0), (5, .int v1), (6, .int x6), (7, .int v2)] → W p l e rmX7_heaviest s m args below meth c H locs 0 0 Q (F0 m 54 ls [])) (hq : ∀ (H : Heap) (locs : List Loc) (ls : Array Slot), va_P (dC, dI) vwCl [(bM, .inr (7, [.int th, .long tc, .ref b0, .int pd, .ref b1, .ref b2, .ref b3, .long be, .ref b4, .ref b5, .int fs])), (b0, .inl (cI, 7, .inl mr)), (b1, .inl (cI, 400, .inl mp)), (b2, .inl (cJ, 49, .inr (.inl ch))), (b3, .inl (cJ, 49, .inr (.inl la))), (b4, .inl (cJ, 128, .inr (.inl se))), (b5, .inl (cI, 13, .inl ta))] H → va_D A [(bM, .inr (7, [.int th, .long tc, .ref b0, .int pd, .ref b1, .ref b2, .ref b3, .long be, .ref b4, .ref b5, .int fs])), (b0, .inl (cI, 7, .inl mr)), (b1, .inl (cI, 400, .inl mp)), (b2, .inl (cJ, 49, .inr (.inl ch))), (b3, .inl (cJ, 49, .inr (.inl la))), (b4, .inl (cJ, 128, .inr (.inl se))), (b5, .inl (cI, 13, .inl ta))] → va_S A s.heap H locs → lv_has ls 10 [(0, .ref bM), (2, .int x2), (3, .long R.1), (5, .int R.2.1), (6, .int x6)] → W p l e rmX7_heaviest s m args below meth c H locs 0 0 Q (F0 m 143 ls [])) (hf : b_X7_heaviest_54 k x2 x3 x5 x6 x7 th tc mr pd mp ch la be se ta fs = some R) : ∀ (H : Heap) (locs : List Loc) (ls : Array Slot), va_P (dC, dI) vwCl [(bM, .inr (7, [.int th, .long tc, .ref b0, .int pd, .ref b1, .ref b2, .ref b3, .long be, .ref b4, .ref b5, .int fs])), (b0, .inl (cI, 7, .inl mr)), (b1, .inl (cI, 400, .inl mp)), (b2, .inl (cJ, 49, .inr (.inl ch))), (b3, .inl (cJ, 49, .inr (.inl la))), (b4, .inl (cJ, 128, .inr (.inl se))), (b5, .inl (cI, 13, .inl ta))] H → va_D A [(bM, .inr (7, [.int th, .long tc, .ref b0, .int pd, .ref b1, .ref b2, .ref b3, .long be, .ref b4, .ref b5, .int fs])), (b0, .inl (cI, 7, .inl mr)), (b1, .inl (cI, 400, .inl mp)), (b2, .inl (cJ, 49, .inr (.inl ch))), (b3, .inl (cJ, 49, .inr (.inl la))), (b4, .inl (cJ, 128, .inr (.inl se))), (b5, .inl (cI, 13, .inl ta))] → va_S A s.heap H locs → lv_has ls 10 [(0, .ref bM), (2, .int x2), (3, .long x3), (5, .int x5), (6, .int x6), (7, .int x7)] → W p l e rmX7_heaviest s m args below meth c H locs 0 0 Q (F0 m 54 ls []) := by
  obtain ⟨hx, hb, hml, hown, hts, hrt, hlk, hK, hX, hA⟩ := id C0
  intro H locs ls hP hD hS hl
  unfold b_X7_heaviest_54 at hf
  refine lv_iload hx hb dX7_heaviest_54 (lv_at hl 5 rfl) ?_
  refine lv_aload_n hx hb dX7_heaviest_56 rfl (lv_at hl 0 rfl) ?_
  refine q_get (TT := TX7) C0 in_X7_heaviest_X7 2 m_X7_heaviest_f7 hP 0 rfl rfl (by decide) rfl rfl dX7_heaviest_57 ?_
  refine lv_iconst (v := 2) hx hb dX7_heaviest_60 (by decide) ?_
  refine q_iald (v := mr 2) C0 hP 1 0 rfl rfl (by unfold vp_in; decide) rfl dX7_heaviest_61 ?_
  refine lv_icmp_ge (tgt := 143) hx hb dX7_heaviest_62 (by decide) (fun hc1 => ?_) (fun hc1 => ?_)
  · have hf := q_if hf hc1
    obtain rfl := Option.some.inj hf
    exact hq H locs ls hP hD hS (lv_sub hl [0, 1, 2, 3, 4] rfl)
  · have hf := q_nif hf hc1
    refine lv_aload_n hx hb dX7_heaviest_65 rfl (lv_at hl 0 rfl) ?_
    refine q_get (TT := TX7) C0 in_X7_heaviest_X7 5 m_X7_heaviest_f16 hP 0 rfl rfl (by decide) rfl rfl dX7_heaviest_66 ?_
    refine lv_bipush (v := 7) hx hb dX7_heaviest_69 (by decide) ?_
    refine lv_iload hx hb dX7_heaviest_71 (lv_at hl 4 rfl) ?_
    refine lv_imul hx hb dX7_heaviest_73 ?_
    refine lv_bipush (v := 7) hx hb dX7_heaviest_74 (by decide) ?_
    refine lv_iadd hx hb dX7_heaviest_76 ?_
    refine lv_iload hx hb dX7_heaviest_77 (lv_at hl 5 rfl) ?_
    refine lv_iadd hx hb dX7_heaviest_79 ?_
    obtain ⟨hin2, hf⟩ := q_gd hf
    refine q_lald (v := ch (Int32.toNatClampNeg (((7 * x6) + 7) + x7))) C0 hP 3 1 rfl rfl hin2 rfl dX7_heaviest_80 ?_
    refine lv_aload_n hx hb dX7_heaviest_81 rfl (lv_at hl 0 rfl) ?_
    refine q_get (TT := TX7) C0 in_X7_heaviest_X7 5 m_X7_heaviest_f16 hP 0 rfl rfl (by decide) rfl rfl dX7_heaviest_82 ?_
    refine lv_bipush (v := 7) hx hb dX7_heaviest_85 (by decide) ?_
    refine lv_iload hx hb dX7_heaviest_87 (lv_at hl 4 rfl) ?_
    refine lv_imul hx hb dX7_heaviest_89 ?_
    refine lv_iload hx hb dX7_heaviest_90 (lv_at hl 5 rfl) ?_
    refine lv_iadd hx hb dX7_heaviest_92 ?_
    refine lv_iconst (v := 1) hx hb dX7_heaviest_93 (by decide) ?_
    refine lv_iadd hx hb dX7_heaviest_94 ?_
    obtain ⟨hin3, hf⟩ := q_gd hf
    refine q_lald (v := ch (Int32.toNatClampNeg (((7 * x6) + x7) + 1))) C0 hP 3 1 rfl rfl hin3 rfl dX7_heaviest_95 ?_
    refine lv_lsub hx hb dX7_heaviest_96 ?_
    refine lv_lstore (lv' := [(8, .long ((ch (Int32.toNatClampNeg (((7 * x6) + 7) + x7))) - (ch (Int32.toNatClampNeg (((7 * x6) + x7) + 1))))), (0, .ref bM), (2, .int x2), (3, .long x3), (5, .int x5), (6, .int x6), (7, .int x7)]) hx hb dX7_heaviest_97 hl (by decide) rfl (fun ls hl => ?_)
    refine lv_aload_n hx hb dX7_heaviest_99 rfl (lv_at hl 1 rfl) ?_
    refine lv_aload_n hx hb dX7_heaviest_100 rfl (lv_at hl 1 rfl) ?_
    refine q_get (TT := TX7) C0 in_X7_heaviest_X7 2 m_X7_heaviest_f7 hP 0 rfl rfl (by decide) rfl rfl dX7_heaviest_101 ?_
    refine lv_bipush (v := 6) hx hb dX7_heaviest_104 (by decide) ?_
    refine q_iald (v := mr 6) C0 hP 1 0 rfl rfl (by unfold vp_in; decide) rfl dX7_heaviest_106 ?_
    refine lv_iload hx hb dX7_heaviest_107 (lv_at hl 5 rfl) ?_
    refine lv_iload hx hb dX7_heaviest_109 (lv_at hl 6 rfl) ?_
    obtain ⟨r4, hg5, hf⟩ := q_e1 hf
    refine q_endI (wc := [(bM, .inr (7, [.int th, .long tc, .ref b0, .int pd, .ref b1, .ref b2, .ref b3, .long be, .ref b4, .ref b5, .int fs])), (b0, .inl (cI, 7, .inl mr)), (b1, .inl (cI, 400, .inl mp)), (b2, .inl (cJ, 49, .inr (.inl ch))), (b3, .inl (cJ, 49, .inr (.inl la))), (b4, .inl (cJ, 128, .inr (.inl se))), (b5, .inl (cI, 13, .inl ta))]) (wr := []) (w1 := [(bM, .inr (7, [.int th, .long tc, .ref b0, .int pd, .ref b1, .ref b2, .ref b3, .long be, .ref b4, .ref b5, .int fs])), (b0, .inl (cI, 7, .inl mr)), (b1, .inl (cI, 400, .inl mp)), (b2, .inl (cJ, 49, .inr (.inl ch))), (b3, .inl (cJ, 49, .inr (.inl la))), (b4, .inl (cJ, 128, .inr (.inl se))), (b5, .inl (cI, 13, .inl ta))]) (rv := r4) C0 hP hD hS [0, 1, 2, 3, 4, 5, 6] [] rfl rfl (by decide) (by decide) (q_runV (TT := TX7) (N := 11) (ci := 7) (q0 := 0) C0 (c_X7_wonOf (l := l) hg5) (cwV 3 hts gX7_heaviest_X7_wonOf rfl rfl rfl (by decide +kernel) ⟨Nat.le_of_ble_eq_true rfl, Nat.le_of_ble_eq_true rfl⟩) hP hD hS [0, 1, 2, 3, 4, 5, 6] rfl (by decide) rfl rfl rfl rfl hl.1 (Nat.le_of_ble_eq_true rfl) dX7_heaviest_111) (fun H locs hP hD hS => ?_)
    have hP : va_P (dC, dI) vwCl [(bM, .inr (7, [.int th, .long tc, .ref b0, .int pd, .ref b1, .ref b2, .ref b3, .long be, .ref b4, .ref b5, .int fs])), (b0, .inl (cI, 7, .inl mr)), (b1, .inl (cI, 400, .inl mp)), (b2, .inl (cJ, 49, .inr (.inl ch))), (b3, .inl (cJ, 49, .inr (.inl la))), (b4, .inl (cJ, 128, .inr (.inl se))), (b5, .inl (cI, 13, .inl ta))] H := hP
    have hD : va_D A [(bM, .inr (7, [.int th, .long tc, .ref b0, .int pd, .ref b1, .ref b2, .ref b3, .long be, .ref b4, .ref b5, .int fs])), (b0, .inl (cI, 7, .inl mr)), (b1, .inl (cI, 400, .inl mp)), (b2, .inl (cJ, 49, .inr (.inl ch))), (b3, .inl (cJ, 49, .inr (.inl la))), (b4, .inl (cJ, 128, .inr (.inl se))), (b5, .inl (cI, 13, .inl ta))] := hD
    refine lv_if_ne (tgt := 137) hx hb dX7_heaviest_114 (by decide) (fun hc6 => ?_) (fun hc6 => ?_)
    · have hf := q_nif hf hc6
      exact B_X7_heaviest_137 C0 hk hq hf H locs ls hP hD hS (lv_sub hl [1, 2, 3, 4, 5, 6] rfl)
    · have hf := q_if hf hc6
      refine lv_lload hx hb dX7_heaviest_117 (lv_at hl 0 rfl) ?_
      refine lv_lload_n hx hb dX7_heaviest_119 rfl (lv_at hl 3 rfl) ?_
      refine W.lcmp hx hb dX7_heaviest_120 ?_
      refine lv_if_le (tgt := 137) hx hb dX7_heaviest_121 (by decide) (fun hc7 => ?_) (fun hc7 => ?_)
      · have hf := q_if hf hc7
        exact B_X7_heaviest_137 C0 hk hq hf H locs ls hP hD hS (lv_sub hl [1, 2, 3, 4, 5, 6] rfl)
      · have hf := q_nif hf hc7
        refine lv_lload hx hb dX7_heaviest_124 (lv_at hl 0 rfl) ?_
        refine lv_lstore_n (lv' := [(3, .long ((ch (Int32.toNatClampNeg (((7 * x6) + 7) + x7))) - (ch (Int32.toNatClampNeg (((7 * x6) + x7) + 1))))), (8, .long ((ch (Int32.toNatClampNeg (((7 * x6) + 7) + x7))) - (ch (Int32.toNatClampNeg (((7 * x6) + x7) + 1))))), (0, .ref bM), (2, .int x2), (5, .int x5), (6, .int x6), (7, .int x7)]) hx hb dX7_heaviest_126 rfl hl (by decide) rfl (fun ls hl => ?_)
        refine lv_bipush (v := 7) hx hb dX7_heaviest_127 (by decide) ?_
        refine lv_iload hx hb dX7_heaviest_129 (lv_at hl 5 rfl) ?_
        refine lv_imul hx hb dX7_heaviest_131 ?_
        refine lv_iload hx hb dX7_heaviest_132 (lv_at hl 6 rfl) ?_
        refine lv_iadd hx hb dX7_heaviest_134 ?_
        refine lv_istore (lv' := [(5, .int ((7 * x6) + x7)), (3, .long ((ch (Int32.toNatClampNeg (((7 * x6) + 7) + x7))) - (ch (Int32.toNatClampNeg (((7 * x6) + x7) + 1))))), (8, .long ((ch (Int32.toNatClampNeg (((7 * x6) + 7) + x7))) - (ch (Int32.toNatClampNeg (((7 * x6) + x7) + 1))))), (0, .ref bM), (2, .int x2), (6, .int x6), (7, .int x7)]) hx hb dX7_heaviest_135 hl (by decide) rfl (fun ls hl => ?_)
        exact B_X7_heaviest_137 C0 hk hq hf H locs ls hP hD hS (lv_sub hl [3, 4, 1, 0, 5, 6] rfl)
set_option maxHeartbeats 4000000 in
set_option maxRecDepth 100000 in
theorem L_X7_heaviest_54 {p : Program} {l : Launch} {e : Env} {s : State} {m : MethodId} {args : Array Value} {below : List Frame} {meth : Method} {c : Code} {A : Nat → Prop} {dC : Nat → ClassId} {dI : Nat → Nat → Nat} {cI cJ cZ : ClassId} {bM b0 b1 b2 b3 b4 b5 : Nat} (C0 : q_C p s m args meth c (dC, dI) (q_T cI cJ cZ) A RX7 wsX7_heaviest cX7_heaviest 10 (some .int)) {Q : State → Prop} {x2 : Int32} {x6 : Int32} {th : Int32} {tc : Int64} {mr : (Nat → Int32)} {pd : Int32} {mp : (Nat → Int32)} {ch : (Nat → Int64)} {la : (Nat → Int64)} {be : Int64} {se : (Nat → Int64)} {ta : (Nat → Int32)} {fs : Int32} : ∀ (n : Nat) (v0 : Int64) (v1 : Int32) (v2 : Int32) (R : Int64 × Int32 × Int32), l_X7_heaviest_54 x2 x6 th tc mr pd mp ch la be se ta fs n (v0, v1, v2) = some R → (∀ (H : Heap) (locs : List Loc) (ls : Array Slot), va_P (dC, dI) vwCl [(bM, .inr (7, [.int th, .long tc, .ref b0, .int pd, .ref b1, .ref b2, .ref b3, .long be, .ref b4, .ref b5, .int fs])), (b0, .inl (cI, 7, .inl mr)), (b1, .inl (cI, 400, .inl mp)), (b2, .inl (cJ, 49, .inr (.inl ch))), (b3, .inl (cJ, 49, .inr (.inl la))), (b4, .inl (cJ, 128, .inr (.inl se))), (b5, .inl (cI, 13, .inl ta))] H → va_D A [(bM, .inr (7, [.int th, .long tc, .ref b0, .int pd, .ref b1, .ref b2, .ref b3, .long be, .ref b4, .ref b5, .int fs])), (b0, .inl (cI, 7, .inl mr)), (b1, .inl (cI, 400, .inl mp)), (b2, .inl (cJ, 49, .inr (.inl ch))), (b3, .inl (cJ, 49, .inr (.inl la))), (b4, .inl (cJ, 128, .inr (.inl se))), (b5, .inl (cI, 13, .inl ta))] → va_S A s.heap H locs → lv_has ls 10 [(0, .ref bM), (2, .int x2), (3, .long R.1), (5, .int R.2.1), (6, .int x6)] → W p l e rmX7_heaviest s m args below meth c H locs 0 0 Q (F0 m 143 ls [])) → ∀ (H : Heap) (locs : List Loc) (ls : Array Slot), va_P (dC, dI) vwCl [(bM, .inr (7, [.int th, .long tc, .ref b0, .int pd, .ref b1, .ref b2, .ref b3, .long be, .ref b4, .ref b5, .int fs])), (b0, .inl (cI, 7, .inl mr)), (b1, .inl (cI, 400, .inl mp)), (b2, .inl (cJ, 49, .inr (.inl ch))), (b3, .inl (cJ, 49, .inr (.inl la))), (b4, .inl (cJ, 128, .inr (.inl se))), (b5, .inl (cI, 13, .inl ta))] H → va_D A [(bM, .inr (7, [.int th, .long tc, .ref b0, .int pd, .ref b1, .ref b2, .ref b3, .long be, .ref b4, .ref b5, .int fs])), (b0, .inl (cI, 7, .inl mr)), (b1, .inl (cI, 400, .inl mp)), (b2, .inl (cJ, 49, .inr (.inl ch))), (b3, .inl (cJ, 49, .inr (.inl la))), (b4, .inl (cJ, 128, .inr (.inl se))), (b5, .inl (cI, 13, .inl ta))] → va_S A s.heap H locs → lv_has ls 10 [(0, .ref bM), (2, .int x2), (3, .long v0), (5, .int v1), (6, .int x6), (7, .int v2)] → W p l e rmX7_heaviest s m args below meth c H locs 0 0 Q (F0 m 54 ls []) := by
  intro n
  induction n with
  | zero =>
    intro v0 v1 v2 R hf
    have hf : (none : Option (Int64 × Int32 × Int32)) = some R := hf
    cases hf
  | succ n ih =>
    intro v0 v1 v2 R hf hq
    have hf : b_X7_heaviest_54 (l_X7_heaviest_54 x2 x6 th tc mr pd mp ch la be se ta fs n) x2 v0 v1 x6 v2 th tc mr pd mp ch la be se ta fs = some R := hf
    exact B_X7_heaviest_54 C0 (fun v0 v1 v2 h => ih v0 v1 v2 R h hq) hq hf
set_option maxHeartbeats 4000000 in
set_option maxRecDepth 100000 in
theorem B_X7_heaviest_40 {p : Program} {l : Launch} {e : Env} {s : State} {m : MethodId} {args : Array Value} {below : List Frame} {meth : Method} {c : Code} {A : Nat → Prop} {dC : Nat → ClassId} {dI : Nat → Nat → Nat} {cI cJ cZ : ClassId} {bM b0 b1 b2 b3 b4 b5 : Nat} (C0 : q_C p s m args meth c (dC, dI) (q_T cI cJ cZ) A RX7 wsX7_heaviest cX7_heaviest 10 (some .int)) {Q : State → Prop} {k : (Int64 × Int32 × Int32) → Option (Int64 × Int32 × Int32)} {x2 : Int32} {x3 : Int64} {x5 : Int32} {x6 : Int32} {th : Int32} {tc : Int64} {mr : (Nat → Int32)} {pd : Int32} {mp : (Nat → Int32)} {ch : (Nat → Int64)} {la : (Nat → Int64)} {be : Int64} {se : (Nat → Int64)} {ta : (Nat → Int32)} {fs : Int32} {R : Int64 × Int32 × Int32} (hk : ∀ (v0 : Int64) (v1 : Int32) (v2 : Int32), k (v0, v1, v2) = some R → ∀ (H : Heap) (locs : List Loc) (ls : Array Slot), va_P (dC, dI) vwCl [(bM, .inr (7, [.int th, .long tc, .ref b0, .int pd, .ref b1, .ref b2, .ref b3, .long be, .ref b4, .ref b5, .int fs])), (b0, .inl (cI, 7, .inl mr)), (b1, .inl (cI, 400, .inl mp)), (b2, .inl (cJ, 49, .inr (.inl ch))), (b3, .inl (cJ, 49, .inr (.inl la))), (b4, .inl (cJ, 128, .inr (.inl se))), (b5, .inl (cI, 13, .inl ta))] H → va_D A [(bM, .inr (7, [.int th, .long tc, .ref b0, .int pd, .ref b1, .ref b2, .ref b3, .long be, .ref b4, .ref b5, .int fs])), (b0, .inl (cI, 7, .inl mr)), (b1, .inl (cI, 400, .inl mp)), (b2, .inl (cJ, 49, .inr (.inl ch))), (b3, .inl (cJ, 49, .inr (.inl la))), (b4, .inl (cJ, 128, .inr (.inl se))), (b5, .inl (cI, 13, .inl ta))] → va_S A s.heap H locs → lv_has ls 10 [(0, .ref bM), (2, .int x2), (3, .long v0), (5, .int v1), (6, .int v2)] → W p l e rmX7_heaviest s m args below meth c H locs 0 0 Q (F0 m 40 ls [])) (hq : ∀ (H : Heap) (locs : List Loc) (ls : Array Slot), va_P (dC, dI) vwCl [(bM, .inr (7, [.int th, .long tc, .ref b0, .int pd, .ref b1, .ref b2, .ref b3, .long be, .ref b4, .ref b5, .int fs])), (b0, .inl (cI, 7, .inl mr)), (b1, .inl (cI, 400, .inl mp)), (b2, .inl (cJ, 49, .inr (.inl ch))), (b3, .inl (cJ, 49, .inr (.inl la))), (b4, .inl (cJ, 128, .inr (.inl se))), (b5, .inl (cI, 13, .inl ta))] H → va_D A [(bM, .inr (7, [.int th, .long tc, .ref b0, .int pd, .ref b1, .ref b2, .ref b3, .long be, .ref b4, .ref b5, .int fs])), (b0, .inl (cI, 7, .inl mr)), (b1, .inl (cI, 400, .inl mp)), (b2, .inl (cJ, 49, .inr (.inl ch))), (b3, .inl (cJ, 49, .inr (.inl la))), (b4, .inl (cJ, 128, .inr (.inl se))), (b5, .inl (cI, 13, .inl ta))] → va_S A s.heap H locs → lv_has ls 10 [(2, .int x2), (5, .int R.2.1)] → W p l e rmX7_heaviest s m args below meth c H locs 0 0 Q (F0 m 149 ls [])) (hf : b_X7_heaviest_40 k x2 x3 x5 x6 th tc mr pd mp ch la be se ta fs = some R) : ∀ (H : Heap) (locs : List Loc) (ls : Array Slot), va_P (dC, dI) vwCl [(bM, .inr (7, [.int th, .long tc, .ref b0, .int pd, .ref b1, .ref b2, .ref b3, .long be, .ref b4, .ref b5, .int fs])), (b0, .inl (cI, 7, .inl mr)), (b1, .inl (cI, 400, .inl mp)), (b2, .inl (cJ, 49, .inr (.inl ch))), (b3, .inl (cJ, 49, .inr (.inl la))), (b4, .inl (cJ, 128, .inr (.inl se))), (b5, .inl (cI, 13, .inl ta))] H → va_D A [(bM, .inr (7, [.int th, .long tc, .ref b0, .int pd, .ref b1, .ref b2, .ref b3, .long be, .ref b4, .ref b5, .int fs])), (b0, .inl (cI, 7, .inl mr)), (b1, .inl (cI, 400, .inl mp)), (b2, .inl (cJ, 49, .inr (.inl ch))), (b3, .inl (cJ, 49, .inr (.inl la))), (b4, .inl (cJ, 128, .inr (.inl se))), (b5, .inl (cI, 13, .inl ta))] → va_S A s.heap H locs → lv_has ls 10 [(0, .ref bM), (2, .int x2), (3, .long x3), (5, .int x5), (6, .int x6)] → W p l e rmX7_heaviest s m args below meth c H locs 0 0 Q (F0 m 40 ls []) := by
  obtain ⟨hx, hb, hml, hown, hts, hrt, hlk, hK, hX, hA⟩ := id C0
  intro H locs ls hP hD hS hl
  unfold b_X7_heaviest_40 at hf
  refine lv_iload hx hb dX7_heaviest_40 (lv_at hl 4 rfl) ?_
  refine lv_aload_n hx hb dX7_heaviest_42 rfl (lv_at hl 0 rfl) ?_
  refine q_get (TT := TX7) C0 in_X7_heaviest_X7 2 m_X7_heaviest_f7 hP 0 rfl rfl (by decide) rfl rfl dX7_heaviest_43 ?_
  refine lv_iconst (v := 2) hx hb dX7_heaviest_46 (by decide) ?_
  refine q_iald (v := mr 2) C0 hP 1 0 rfl rfl (by unfold vp_in; decide) rfl dX7_heaviest_47 ?_
  refine lv_icmp_ge (tgt := 149) hx hb dX7_heaviest_48 (by decide) (fun hc8 => ?_) (fun hc8 => ?_)
  · have hf := q_if hf hc8
    obtain rfl := Option.some.inj hf
    exact hq H locs ls hP hD hS (lv_sub hl [1, 3] rfl)
  · have hf := q_nif hf hc8
    refine lv_iconst (v := 0) hx hb dX7_heaviest_51 (by decide) ?_
    refine lv_istore (lv' := [(7, .int 0), (0, .ref bM), (2, .int x2), (3, .long x3), (5, .int x5), (6, .int x6)]) hx hb dX7_heaviest_52 hl (by decide) rfl (fun ls hl => ?_)
    obtain ⟨y9, y10, y11, hg12, hf⟩ := q_e3 hf
    refine L_X7_heaviest_54 C0 1000 _ _ _ _ hg12 ?_ H locs ls hP hD hS (lv_sub hl [1, 2, 3, 4, 5, 0] rfl)
    intro H locs ls hP hD hS hl
    have hP : va_P (dC, dI) vwCl [(bM, .inr (7, [.int th, .long tc, .ref b0, .int pd, .ref b1, .ref b2, .ref b3, .long be, .ref b4, .ref b5, .int fs])), (b0, .inl (cI, 7, .inl mr)), (b1, .inl (cI, 400, .inl mp)), (b2, .inl (cJ, 49, .inr (.inl ch))), (b3, .inl (cJ, 49, .inr (.inl la))), (b4, .inl (cJ, 128, .inr (.inl se))), (b5, .inl (cI, 13, .inl ta))] H := hP
    have hD : va_D A [(bM, .inr (7, [.int th, .long tc, .ref b0, .int pd, .ref b1, .ref b2, .ref b3, .long be, .ref b4, .ref b5, .int fs])), (b0, .inl (cI, 7, .inl mr)), (b1, .inl (cI, 400, .inl mp)), (b2, .inl (cJ, 49, .inr (.inl ch))), (b3, .inl (cJ, 49, .inr (.inl la))), (b4, .inl (cJ, 128, .inr (.inl se))), (b5, .inl (cI, 13, .inl ta))] := hD
    have hl : lv_has ls 10 [(0, .ref bM), (2, .int x2), (3, .long y9), (5, .int y10), (6, .int x6)] := hl
    refine lv_iinc (v := x6 + 1) (lv' := [(6, .int (x6 + 1)), (0, .ref bM), (2, .int x2), (3, .long y9), (5, .int y10)]) hx hb dX7_heaviest_143 hl (k := 4) rfl rfl (by decide) rfl (fun ls hl => ?_)
    refine lv_goto (tgt := 40) hx hb dX7_heaviest_146 (by decide) ?_
    exact hk _ _ _ hf H locs ls hP hD hS (lv_sub hl [1, 2, 3, 4, 0] rfl)
set_option maxHeartbeats 4000000 in
set_option maxRecDepth 100000 in
theorem L_X7_heaviest_40 {p : Program} {l : Launch} {e : Env} {s : State} {m : MethodId} {args : Array Value} {below : List Frame} {meth : Method} {c : Code} {A : Nat → Prop} {dC : Nat → ClassId} {dI : Nat → Nat → Nat} {cI cJ cZ : ClassId} {bM b0 b1 b2 b3 b4 b5 : Nat} (C0 : q_C p s m args meth c (dC, dI) (q_T cI cJ cZ) A RX7 wsX7_heaviest cX7_heaviest 10 (some .int)) {Q : State → Prop} {x2 : Int32} {th : Int32} {tc : Int64} {mr : (Nat → Int32)} {pd : Int32} {mp : (Nat → Int32)} {ch : (Nat → Int64)} {la : (Nat → Int64)} {be : Int64} {se : (Nat → Int64)} {ta : (Nat → Int32)} {fs : Int32} : ∀ (n : Nat) (v0 : Int64) (v1 : Int32) (v2 : Int32) (R : Int64 × Int32 × Int32), l_X7_heaviest_40 x2 th tc mr pd mp ch la be se ta fs n (v0, v1, v2) = some R → (∀ (H : Heap) (locs : List Loc) (ls : Array Slot), va_P (dC, dI) vwCl [(bM, .inr (7, [.int th, .long tc, .ref b0, .int pd, .ref b1, .ref b2, .ref b3, .long be, .ref b4, .ref b5, .int fs])), (b0, .inl (cI, 7, .inl mr)), (b1, .inl (cI, 400, .inl mp)), (b2, .inl (cJ, 49, .inr (.inl ch))), (b3, .inl (cJ, 49, .inr (.inl la))), (b4, .inl (cJ, 128, .inr (.inl se))), (b5, .inl (cI, 13, .inl ta))] H → va_D A [(bM, .inr (7, [.int th, .long tc, .ref b0, .int pd, .ref b1, .ref b2, .ref b3, .long be, .ref b4, .ref b5, .int fs])), (b0, .inl (cI, 7, .inl mr)), (b1, .inl (cI, 400, .inl mp)), (b2, .inl (cJ, 49, .inr (.inl ch))), (b3, .inl (cJ, 49, .inr (.inl la))), (b4, .inl (cJ, 128, .inr (.inl se))), (b5, .inl (cI, 13, .inl ta))] → va_S A s.heap H locs → lv_has ls 10 [(2, .int x2), (5, .int R.2.1)] → W p l e rmX7_heaviest s m args below meth c H locs 0 0 Q (F0 m 149 ls [])) → ∀ (H : Heap) (locs : List Loc) (ls : Array Slot), va_P (dC, dI) vwCl [(bM, .inr (7, [.int th, .long tc, .ref b0, .int pd, .ref b1, .ref b2, .ref b3, .long be, .ref b4, .ref b5, .int fs])), (b0, .inl (cI, 7, .inl mr)), (b1, .inl (cI, 400, .inl mp)), (b2, .inl (cJ, 49, .inr (.inl ch))), (b3, .inl (cJ, 49, .inr (.inl la))), (b4, .inl (cJ, 128, .inr (.inl se))), (b5, .inl (cI, 13, .inl ta))] H → va_D A [(bM, .inr (7, [.int th, .long tc, .ref b0, .int pd, .ref b1, .ref b2, .ref b3, .long be, .ref b4, .ref b5, .int fs])), (b0, .inl (cI, 7, .inl mr)), (b1, .inl (cI, 400, .inl mp)), (b2, .inl (cJ, 49, .inr (.inl ch))), (b3, .inl (cJ, 49, .inr (.inl la))), (b4, .inl (cJ, 128, .inr (.inl se))), (b5, .inl (cI, 13, .inl ta))] → va_S A s.heap H locs → lv_has ls 10 [(0, .ref bM), (2, .int x2), (3, .long v0), (5, .int v1), (6, .int v2)] → W p l e rmX7_heaviest s m args below meth c H locs 0 0 Q (F0 m 40 ls []) := by
  intro n
  induction n with
  | zero =>
    intro v0 v1 v2 R hf
    have hf : (none : Option (Int64 × Int32 × Int32)) = some R := hf
    cases hf
  | succ n ih =>
    intro v0 v1 v2 R hf hq
    have hf : b_X7_heaviest_40 (l_X7_heaviest_40 x2 th tc mr pd mp ch la be se ta fs n) x2 v0 v1 v2 th tc mr pd mp ch la be se ta fs = some R := hf
    exact B_X7_heaviest_40 C0 (fun v0 v1 v2 h => ih v0 v1 v2 R h hq) hq hf
set_option maxHeartbeats 4000000 in
set_option maxRecDepth 100000 in
theorem B_X7_heaviest_0 {p : Program} {l : Launch} {e : Env} {s : State} {m : MethodId} {args : Array Value} {below : List Frame} {meth : Method} {c : Code} {A : Nat → Prop} {dC : Nat → ClassId} {dI : Nat → Nat → Nat} {cI cJ cZ : ClassId} {bM b0 b1 b2 b3 b4 b5 : Nat} (C0 : q_C p s m args meth c (dC, dI) (q_T cI cJ cZ) A RX7 wsX7_heaviest cX7_heaviest 10 (some .int)) {x1 : Int32} {x2 : Int32} {th : Int32} {tc : Int64} {mr : (Nat → Int32)} {pd : Int32} {mp : (Nat → Int32)} {ch : (Nat → Int64)} {la : (Nat → Int64)} {be : Int64} {se : (Nat → Int64)} {ta : (Nat → Int32)} {fs : Int32} {R : Int32 × Int32 × (Nat → Int64) × (Nat → Int64) × Int64} (hf : f_X7_heaviest x1 x2 th tc mr pd mp ch la be se ta fs = some R) : ∀ (H : Heap) (locs : List Loc) (ls : Array Slot), va_P (dC, dI) vwCl [(bM, .inr (7, [.int th, .long tc, .ref b0, .int pd, .ref b1, .ref b2, .ref b3, .long be, .ref b4, .ref b5, .int fs])), (b0, .inl (cI, 7, .inl mr)), (b1, .inl (cI, 400, .inl mp)), (b2, .inl (cJ, 49, .inr (.inl ch))), (b3, .inl (cJ, 49, .inr (.inl la))), (b4, .inl (cJ, 128, .inr (.inl se))), (b5, .inl (cI, 13, .inl ta))] H → va_D A [(bM, .inr (7, [.int th, .long tc, .ref b0, .int pd, .ref b1, .ref b2, .ref b3, .long be, .ref b4, .ref b5, .int fs])), (b0, .inl (cI, 7, .inl mr)), (b1, .inl (cI, 400, .inl mp)), (b2, .inl (cJ, 49, .inr (.inl ch))), (b3, .inl (cJ, 49, .inr (.inl la))), (b4, .inl (cJ, 128, .inr (.inl se))), (b5, .inl (cI, 13, .inl ta))] → va_S A s.heap H locs → lv_has ls 10 [(0, .ref bM), (1, .int x1), (2, .int x2)] → W p l e rmX7_heaviest s m args below meth c H locs 0 0 (MQ below (qI (dC, dI) (q_T cI cJ cZ) [(bM, .inr (7, [.int R.2.1, .long tc, .ref b0, .int pd, .ref b1, .ref b2, .ref b3, .long R.2.2.2.2, .ref b4, .ref b5, .int fs])), (b0, .inl (cI, 7, .inl mr)), (b1, .inl (cI, 400, .inl mp)), (b2, .inl (cJ, 49, .inr (.inl R.2.2.1))), (b3, .inl (cJ, 49, .inr (.inl R.2.2.2.1))), (b4, .inl (cJ, 128, .inr (.inl se))), (b5, .inl (cI, 13, .inl ta))] R.1 A) args s 0 0 A) (F0 m 0 ls []) := by
  obtain ⟨hx, hb, hml, hown, hts, hrt, hlk, hK, hX, hA⟩ := id C0
  intro H locs ls hP hD hS hl
  unfold f_X7_heaviest at hf
  refine lv_aload_n hx hb dX7_heaviest_0 rfl (lv_at hl 0 rfl) ?_
  refine lv_iconst (v := 0) hx hb dX7_heaviest_1 (by decide) ?_
  refine q_put (ty := .int) (TT := TX7) C0 in_X7_heaviest_X7 tyX7 tyX7_ok nmX7 0 m_X7_heaviest_f32 hP hD hS 0 rfl rfl (by decide) rfl rfl (by decide +kernel) rfl rfl (Nat.le_of_ble_eq_true rfl) dX7_heaviest_2 (fun H locs hP hD hS => ?_)
  have hP : va_P (dC, dI) vwCl [(bM, .inr (7, [.int 0, .long tc, .ref b0, .int pd, .ref b1, .ref b2, .ref b3, .long be, .ref b4, .ref b5, .int fs])), (b0, .inl (cI, 7, .inl mr)), (b1, .inl (cI, 400, .inl mp)), (b2, .inl (cJ, 49, .inr (.inl ch))), (b3, .inl (cJ, 49, .inr (.inl la))), (b4, .inl (cJ, 128, .inr (.inl se))), (b5, .inl (cI, 13, .inl ta))] H := hP
  have hD : va_D A [(bM, .inr (7, [.int 0, .long tc, .ref b0, .int pd, .ref b1, .ref b2, .ref b3, .long be, .ref b4, .ref b5, .int fs])), (b0, .inl (cI, 7, .inl mr)), (b1, .inl (cI, 400, .inl mp)), (b2, .inl (cJ, 49, .inr (.inl ch))), (b3, .inl (cJ, 49, .inr (.inl la))), (b4, .inl (cJ, 128, .inr (.inl se))), (b5, .inl (cI, 13, .inl ta))] := hD
  refine lv_iload_n hx hb dX7_heaviest_5 rfl (lv_at hl 1 rfl) ?_
  refine lv_iconst (v := 0) hx hb dX7_heaviest_6 (by decide) ?_
  refine lv_iconst (v := 1) hx hb dX7_heaviest_7 (by decide) ?_
  obtain ⟨r13, hg14, hf⟩ := q_e1 hf
  refine q_endI (wc := []) (wr := [(bM, .inr (7, [.int 0, .long tc, .ref b0, .int pd, .ref b1, .ref b2, .ref b3, .long be, .ref b4, .ref b5, .int fs])), (b0, .inl (cI, 7, .inl mr)), (b1, .inl (cI, 400, .inl mp)), (b2, .inl (cJ, 49, .inr (.inl ch))), (b3, .inl (cJ, 49, .inr (.inl la))), (b4, .inl (cJ, 128, .inr (.inl se))), (b5, .inl (cI, 13, .inl ta))]) (w1 := []) (rv := r13) C0 hP hD hS [] [0, 1, 2, 3, 4, 5, 6] rfl rfl (by decide) (by decide) (q_runS C0 (c_X7_in (l := l) hg14) (va_cwS 3 hts gX7_heaviest_X7_in rfl rfl rfl (by decide +kernel) ⟨Nat.le_of_ble_eq_true rfl, Nat.le_of_ble_eq_true rfl⟩) hP hD hS [] rfl (by decide) rfl rfl hl.1 (Nat.le_of_ble_eq_true rfl) dX7_heaviest_8) (fun H locs hP hD hS => ?_)
  have hP : va_P (dC, dI) vwCl [(bM, .inr (7, [.int 0, .long tc, .ref b0, .int pd, .ref b1, .ref b2, .ref b3, .long be, .ref b4, .ref b5, .int fs])), (b0, .inl (cI, 7, .inl mr)), (b1, .inl (cI, 400, .inl mp)), (b2, .inl (cJ, 49, .inr (.inl ch))), (b3, .inl (cJ, 49, .inr (.inl la))), (b4, .inl (cJ, 128, .inr (.inl se))), (b5, .inl (cI, 13, .inl ta))] H := hP
  have hD : va_D A [(bM, .inr (7, [.int 0, .long tc, .ref b0, .int pd, .ref b1, .ref b2, .ref b3, .long be, .ref b4, .ref b5, .int fs])), (b0, .inl (cI, 7, .inl mr)), (b1, .inl (cI, 400, .inl mp)), (b2, .inl (cJ, 49, .inr (.inl ch))), (b3, .inl (cJ, 49, .inr (.inl la))), (b4, .inl (cJ, 128, .inr (.inl se))), (b5, .inl (cI, 13, .inl ta))] := hD
  refine lv_if_eq (tgt := 23) hx hb dX7_heaviest_11 (by decide) (fun hc15 => ?_) (fun hc15 => ?_)
  · have hf := q_if hf hc15
    refine lv_iconst (v := (-1)) hx hb dX7_heaviest_23 (by decide) ?_
    obtain rfl := Option.some.inj hf
    exact q_retI C0 hP hD hS dX7_heaviest_24
  · have hf := q_nif hf hc15
    refine lv_iload_n hx hb dX7_heaviest_14 rfl (lv_at hl 2 rfl) ?_
    refine lv_iconst (v := 0) hx hb dX7_heaviest_15 (by decide) ?_
    refine lv_iconst (v := 1) hx hb dX7_heaviest_16 (by decide) ?_
    obtain ⟨r16, hg17, hf⟩ := q_e1 hf
    refine q_endI (wc := []) (wr := [(bM, .inr (7, [.int 0, .long tc, .ref b0, .int pd, .ref b1, .ref b2, .ref b3, .long be, .ref b4, .ref b5, .int fs])), (b0, .inl (cI, 7, .inl mr)), (b1, .inl (cI, 400, .inl mp)), (b2, .inl (cJ, 49, .inr (.inl ch))), (b3, .inl (cJ, 49, .inr (.inl la))), (b4, .inl (cJ, 128, .inr (.inl se))), (b5, .inl (cI, 13, .inl ta))]) (w1 := []) (rv := r16) C0 hP hD hS [] [0, 1, 2, 3, 4, 5, 6] rfl rfl (by decide) (by decide) (q_runS C0 (c_X7_in (l := l) hg17) (va_cwS 3 hts gX7_heaviest_X7_in rfl rfl rfl (by decide +kernel) ⟨Nat.le_of_ble_eq_true rfl, Nat.le_of_ble_eq_true rfl⟩) hP hD hS [] rfl (by decide) rfl rfl hl.1 (Nat.le_of_ble_eq_true rfl) dX7_heaviest_17) (fun H locs hP hD hS => ?_)
    have hP : va_P (dC, dI) vwCl [(bM, .inr (7, [.int 0, .long tc, .ref b0, .int pd, .ref b1, .ref b2, .ref b3, .long be, .ref b4, .ref b5, .int fs])), (b0, .inl (cI, 7, .inl mr)), (b1, .inl (cI, 400, .inl mp)), (b2, .inl (cJ, 49, .inr (.inl ch))), (b3, .inl (cJ, 49, .inr (.inl la))), (b4, .inl (cJ, 128, .inr (.inl se))), (b5, .inl (cI, 13, .inl ta))] H := hP
    have hD : va_D A [(bM, .inr (7, [.int 0, .long tc, .ref b0, .int pd, .ref b1, .ref b2, .ref b3, .long be, .ref b4, .ref b5, .int fs])), (b0, .inl (cI, 7, .inl mr)), (b1, .inl (cI, 400, .inl mp)), (b2, .inl (cJ, 49, .inr (.inl ch))), (b3, .inl (cJ, 49, .inr (.inl la))), (b4, .inl (cJ, 128, .inr (.inl se))), (b5, .inl (cI, 13, .inl ta))] := hD
    refine lv_if_ne (tgt := 25) hx hb dX7_heaviest_20 (by decide) (fun hc18 => ?_) (fun hc18 => ?_)
    · have hf := q_nif hf hc18
      refine lv_aload_n hx hb dX7_heaviest_25 rfl (lv_at hl 0 rfl) ?_
      refine lv_iload_n hx hb dX7_heaviest_26 rfl (lv_at hl 1 rfl) ?_
      obtain ⟨ch19, la20, be21, hg22, hf⟩ := q_e3 hf
      refine q_endV (wc := [(bM, .inr (7, [.int 0, .long tc, .ref b0, .int pd, .ref b1, .ref b2, .ref b3, .long be, .ref b4, .ref b5, .int fs])), (b0, .inl (cI, 7, .inl mr)), (b1, .inl (cI, 400, .inl mp)), (b2, .inl (cJ, 49, .inr (.inl ch))), (b3, .inl (cJ, 49, .inr (.inl la))), (b4, .inl (cJ, 128, .inr (.inl se))), (b5, .inl (cI, 13, .inl ta))]) (wr := []) (w1 := [(bM, .inr (7, [.int 0, .long tc, .ref b0, .int pd, .ref b1, .ref b2, .ref b3, .long be21, .ref b4, .ref b5, .int fs])), (b0, .inl (cI, 7, .inl mr)), (b1, .inl (cI, 400, .inl mp)), (b2, .inl (cJ, 49, .inr (.inl ch19))), (b3, .inl (cJ, 49, .inr (.inl la20))), (b4, .inl (cJ, 128, .inr (.inl se))), (b5, .inl (cI, 13, .inl ta))]) C0 hP hD hS [0, 1, 2, 3, 4, 5, 6] [] rfl rfl (by decide) (by decide) (q_runV (TT := TX7) (N := 11) (ci := 7) (q0 := 0) C0 (c_X7_works (l := l) hg22) (cwV 1 hts gX7_heaviest_X7_works rfl rfl rfl (by decide +kernel) ⟨Nat.le_of_ble_eq_true rfl, Nat.le_of_ble_eq_true rfl⟩) hP hD hS [0, 1, 2, 3, 4, 5, 6] rfl (by decide) rfl rfl rfl rfl hl.1 (Nat.le_of_ble_eq_true rfl) dX7_heaviest_27) (fun H locs hP hD hS => ?_)
      have hP : va_P (dC, dI) vwCl [(bM, .inr (7, [.int 0, .long tc, .ref b0, .int pd, .ref b1, .ref b2, .ref b3, .long be21, .ref b4, .ref b5, .int fs])), (b0, .inl (cI, 7, .inl mr)), (b1, .inl (cI, 400, .inl mp)), (b2, .inl (cJ, 49, .inr (.inl ch19))), (b3, .inl (cJ, 49, .inr (.inl la20))), (b4, .inl (cJ, 128, .inr (.inl se))), (b5, .inl (cI, 13, .inl ta))] H := hP
      have hD : va_D A [(bM, .inr (7, [.int 0, .long tc, .ref b0, .int pd, .ref b1, .ref b2, .ref b3, .long be21, .ref b4, .ref b5, .int fs])), (b0, .inl (cI, 7, .inl mr)), (b1, .inl (cI, 400, .inl mp)), (b2, .inl (cJ, 49, .inr (.inl ch19))), (b3, .inl (cJ, 49, .inr (.inl la20))), (b4, .inl (cJ, 128, .inr (.inl se))), (b5, .inl (cI, 13, .inl ta))] := hD
      refine lv_ldc2 hx hb hown (hts _ m_X7_heaviest_k90) dX7_heaviest_30 ?_
      refine lv_lstore_n (lv' := [(3, .long (-1 : Int64)), (0, .ref bM), (1, .int x1), (2, .int x2)]) hx hb dX7_heaviest_33 rfl hl (by decide) rfl (fun ls hl => ?_)
      refine lv_iconst (v := 0) hx hb dX7_heaviest_34 (by decide) ?_
      refine lv_istore (lv' := [(5, .int 0), (3, .long (-1 : Int64)), (0, .ref bM), (1, .int x1), (2, .int x2)]) hx hb dX7_heaviest_35 hl (by decide) rfl (fun ls hl => ?_)
      refine lv_iconst (v := 0) hx hb dX7_heaviest_37 (by decide) ?_
      refine lv_istore (lv' := [(6, .int 0), (5, .int 0), (3, .long (-1 : Int64)), (0, .ref bM), (1, .int x1), (2, .int x2)]) hx hb dX7_heaviest_38 hl (by decide) rfl (fun ls hl => ?_)
      obtain ⟨y23, y24, y25, hg26, hf⟩ := q_e3 hf
      refine L_X7_heaviest_40 C0 1000 _ _ _ _ hg26 ?_ H locs ls hP hD hS (lv_sub hl [3, 5, 2, 1, 0] rfl)
      intro H locs ls hP hD hS hl
      have hP : va_P (dC, dI) vwCl [(bM, .inr (7, [.int 0, .long tc, .ref b0, .int pd, .ref b1, .ref b2, .ref b3, .long be21, .ref b4, .ref b5, .int fs])), (b0, .inl (cI, 7, .inl mr)), (b1, .inl (cI, 400, .inl mp)), (b2, .inl (cJ, 49, .inr (.inl ch19))), (b3, .inl (cJ, 49, .inr (.inl la20))), (b4, .inl (cJ, 128, .inr (.inl se))), (b5, .inl (cI, 13, .inl ta))] H := hP
      have hD : va_D A [(bM, .inr (7, [.int 0, .long tc, .ref b0, .int pd, .ref b1, .ref b2, .ref b3, .long be21, .ref b4, .ref b5, .int fs])), (b0, .inl (cI, 7, .inl mr)), (b1, .inl (cI, 400, .inl mp)), (b2, .inl (cJ, 49, .inr (.inl ch19))), (b3, .inl (cJ, 49, .inr (.inl la20))), (b4, .inl (cJ, 128, .inr (.inl se))), (b5, .inl (cI, 13, .inl ta))] := hD
      have hl : lv_has ls 10 [(2, .int x2), (5, .int y24)] := hl
      refine lv_iload_n hx hb dX7_heaviest_149 rfl (lv_at hl 0 rfl) ?_
      refine lv_if_ne (tgt := 161) hx hb dX7_heaviest_150 (by decide) (fun hc27 => ?_) (fun hc27 => ?_)
      · have hf := q_nif hf hc27
        refine lv_iload hx hb dX7_heaviest_161 (lv_at hl 1 rfl) ?_
        refine lv_bipush (v := 7) hx hb dX7_heaviest_163 (by decide) ?_
        refine lv_irem hx hb dX7_heaviest_165 (by decide) ?_
        obtain rfl := Option.some.inj hf
        exact q_retI C0 hP hD hS dX7_heaviest_166
      · have hf := q_if hf hc27
        refine lv_iload hx hb dX7_heaviest_153 (lv_at hl 1 rfl) ?_
        refine lv_bipush (v := 7) hx hb dX7_heaviest_155 (by decide) ?_
        refine lv_idiv hx hb dX7_heaviest_157 (by decide) ?_
        refine lv_goto (tgt := 166) hx hb dX7_heaviest_158 (by decide) ?_
        obtain rfl := Option.some.inj hf
        exact q_retI C0 hP hD hS dX7_heaviest_166
    · have hf := q_if hf hc18
      refine lv_iconst (v := (-1)) hx hb dX7_heaviest_23 (by decide) ?_
      obtain rfl := Option.some.inj hf
      exact q_retI C0 hP hD hS dX7_heaviest_24
set_option maxHeartbeats 4000000 in
set_option maxRecDepth 100000 in
theorem c_X7_heaviest {l : Launch} {dC : Nat → ClassId} {dI : Nat → Nat → Nat} {cI cJ cZ : ClassId} {bM b0 b1 b2 b3 b4 b5 : Nat} {x1 : Int32} {x2 : Int32} {th : Int32} {tc : Int64} {mr : (Nat → Int32)} {pd : Int32} {mp : (Nat → Int32)} {ch : (Nat → Int64)} {la : (Nat → Int64)} {be : Int64} {se : (Nat → Int64)} {ta : (Nat → Int32)} {fs : Int32} {R : Int32 × Int32 × (Nat → Int64) × (Nat → Int64) × Int64} (hf : f_X7_heaviest x1 x2 th tc mr pd mp ch la be se ta fs = some R) : q_M l yX7_heaviest wsX7_heaviest rmX7_heaviest (dC, dI) (q_T cI cJ cZ) [.ref bM, .int x1, .int x2] [(bM, .inr (7, [.int th, .long tc, .ref b0, .int pd, .ref b1, .ref b2, .ref b3, .long be, .ref b4, .ref b5, .int fs])), (b0, .inl (cI, 7, .inl mr)), (b1, .inl (cI, 400, .inl mp)), (b2, .inl (cJ, 49, .inr (.inl ch))), (b3, .inl (cJ, 49, .inr (.inl la))), (b4, .inl (cJ, 128, .inr (.inl se))), (b5, .inl (cI, 13, .inl ta))] (qI (dC, dI) (q_T cI cJ cZ) [(bM, .inr (7, [.int R.2.1, .long tc, .ref b0, .int pd, .ref b1, .ref b2, .ref b3, .long R.2.2.2.2, .ref b4, .ref b5, .int fs])), (b0, .inl (cI, 7, .inl mr)), (b1, .inl (cI, 400, .inl mp)), (b2, .inl (cJ, 49, .inr (.inl R.2.2.1))), (b3, .inl (cJ, 49, .inr (.inl R.2.2.2.1))), (b4, .inl (cJ, 128, .inr (.inl se))), (b5, .inl (cI, 13, .inl ta))] R.1) := by
  refine q_body (cc := cX7_heaviest) (maxL := 10) (ret := (some .int)) (by decide) rfl (Nat.le_of_ble_eq_true rfl) ?_
  intro p e s m args below meth c A C0 ls hP hD hS hl
  have hl : lv_has ls 10 [(0, .ref bM), (1, .int x1), (2, .int x2)] := hl
  exact B_X7_heaviest_0 C0 hf s.heap [] ls hP hD hS hl
