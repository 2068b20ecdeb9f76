/-! ## RungPlay.within -/
abbrev rmX6_within : Room := { frames := 0, cells := 0, slots := 0, locals := 0 }
noncomputable def b_X6_within_14  : Option (Int32) :=
  (some 0)
noncomputable def f_X6_within (x0 : Int32) (x1 : Int32) (x2 : Int32) : Option (Int32) :=
  (if x0 < x1 then (b_X6_within_14 ) else (if x2 < x0 then (b_X6_within_14 ) else (some 1)))
set_option maxHeartbeats 4000000 in
set_option maxRecDepth 100000 in
theorem B_X6_within_14 {p : Program} {l : Launch} {e : Env} {s : State} {m : MethodId} {args : Array Value} {below : List Frame} {meth : Method} {c : Code} {A : Nat → Prop} {dC : Nat → ClassId} {dI : Nat → Nat → Nat} {cI cJ cZ : ClassId} (C0 : q_C p s m args meth c (dC, dI) (q_T cI cJ cZ) A RX6 wsX6_within cX6_within 3 (some .boolean))  {R : Int32} (hf : b_X6_within_14  = some R) : ∀ (H : Heap) (locs : List Loc) (ls : Array Slot), va_P (dC, dI) vwCl [] H → va_D A [] → va_S A s.heap H locs → lv_has ls 3 [] → W p l e rmX6_within s m args below meth c H locs 0 0 (MQ below (qI (dC, dI) (q_T cI cJ cZ) [] R A) args s 0 0 A) (F0 m 14 ls []) := by
  obtain ⟨hx, hb, hml, hown, hts, hrt, hlk, hK, hX, hA⟩ := id C0
  intro H locs ls hP hD hS hl
  unfold b_X6_within_14 at hf
  refine lv_iconst (v := 0) hx hb dX6_within_14 (by decide) ?_
  obtain rfl := Option.some.inj hf
  exact q_retZ C0 (by rfl) hP hD hS dX6_within_15
set_option maxHeartbeats 4000000 in
set_option maxRecDepth 100000 in
theorem B_X6_within_0 {p : Program} {l : Launch} {e : Env} {s : State} {m : MethodId} {args : Array Value} {below : List Frame} {meth : Method} {c : Code} {A : Nat → Prop} {dC : Nat → ClassId} {dI : Nat → Nat → Nat} {cI cJ cZ : ClassId} (C0 : q_C p s m args meth c (dC, dI) (q_T cI cJ cZ) A RX6 wsX6_within cX6_within 3 (some .boolean)) {x0 : Int32} {x1 : Int32} {x2 : Int32} {R : Int32} (hf : f_X6_within x0 x1 x2 = some R) : ∀ (H : Heap) (locs : List Loc) (ls : Array Slot), va_P (dC, dI) vwCl [] H → va_D A [] → va_S A s.heap H locs → lv_has ls 3 [(0, .int x0), (1, .int x1), (2, .int x2)] → W p l e rmX6_within s m args below meth c H locs 0 0 (MQ below (qI (dC, dI) (q_T cI cJ cZ) [] R A) args s 0 0 A) (F0 m 0 ls []) := by
  obtain ⟨hx, hb, hml, hown, hts, hrt, hlk, hK, hX, hA⟩ := id C0
  intro H locs ls hP hD hS hl
  unfold f_X6_within at hf
  refine lv_iload_n hx hb dX6_within_0 rfl (lv_at hl 1 rfl) ?_
  refine lv_iload_n hx hb dX6_within_1 rfl (lv_at hl 0 rfl) ?_
  refine lv_icmp_gt (tgt := 14) hx hb dX6_within_2 (by decide) (fun hc1 => ?_) (fun hc1 => ?_)
  · have hf := q_if hf hc1
    exact B_X6_within_14 C0 hf H locs ls hP hD hS (lv_sub hl [] rfl)
  · have hf := q_nif hf hc1
    refine lv_iload_n hx hb dX6_within_5 rfl (lv_at hl 0 rfl) ?_
    refine lv_iload_n hx hb dX6_within_6 rfl (lv_at hl 2 rfl) ?_
    refine lv_icmp_gt (tgt := 14) hx hb dX6_within_7 (by decide) (fun hc2 => ?_) (fun hc2 => ?_)
    · have hf := q_if hf hc2
      exact B_X6_within_14 C0 hf H locs ls hP hD hS (lv_sub hl [] rfl)
    · have hf := q_nif hf hc2
      refine lv_iconst (v := 1) hx hb dX6_within_10 (by decide) ?_
      refine lv_goto (tgt := 15) hx hb dX6_within_11 (by decide) ?_
      obtain rfl := Option.some.inj hf
      exact q_retZ C0 (by rfl) hP hD hS dX6_within_15
set_option maxHeartbeats 4000000 in
set_option maxRecDepth 100000 in
theorem c_X6_within {l : Launch} {dC : Nat → ClassId} {dI : Nat → Nat → Nat} {cI cJ cZ : ClassId} {x0 : Int32} {x1 : Int32} {x2 : Int32} {R : Int32} (hf : f_X6_within x0 x1 x2 = some R) : q_M l yX6_within wsX6_within rmX6_within (dC, dI) (q_T cI cJ cZ) [.int x0, .int x1, .int x2] [] (qI (dC, dI) (q_T cI cJ cZ) [] R) := by
  refine q_body (cc := cX6_within) (maxL := 3) (ret := (some .boolean)) (by decide) rfl (Nat.le_of_ble_eq_true rfl) ?_
  intro p e s m args below meth c A C0 ls hP hD hS hl
  have hl : lv_has ls 3 [(0, .int x0), (1, .int x1), (2, .int x2)] := hl
  exact B_X6_within_0 C0 hf s.heap [] ls hP hD hS hl
theorem z_X6_within {x0 x1 x2 r : Int32} (h : f_X6_within x0 x1 x2 = some r) : r = 0 ∨ r = 1 := by
  unfold f_X6_within at h
  try unfold b_X6_within_14 at h
  split at h
  · exact Or.inl (Option.some.inj h).symm
  · split at h
    · exact Or.inl (Option.some.inj h).symm
    · exact Or.inr (Option.some.inj h).symm
theorem q_nar01 {r : Int32} (h : r = 0 ∨ r = 1) : narrow .boolean (.int r) = .int r := by
  rcases h with rfl | rfl <;> rfl
/-! ## RungPlay.isEither -/
abbrev rmX6_isEither : Room := { frames := 0, cells := 0, slots := 0, locals := 0 }
noncomputable def b_X6_isEither_9  : Option (Int32) :=
  (some 1)
noncomputable def f_X6_isEither (x0 : Int32) : Option (Int32) :=
  (if x0 = 0 then (b_X6_isEither_9 ) else (if x0 = 1 then (b_X6_isEither_9 ) else (some 0)))
set_option maxHeartbeats 4000000 in
set_option maxRecDepth 100000 in
theorem B_X6_isEither_9 {p : Program} {l : Launch} {e : Env} {s : State} {m : MethodId} {args : Array Value} {below : List Frame} {meth : Method} {c : Code} {A : Nat → Prop} {dC : Nat → ClassId} {dI : Nat → Nat → Nat} {cI cJ cZ : ClassId} (C0 : q_C p s m args meth c (dC, dI) (q_T cI cJ cZ) A RX6 wsX6_isEither cX6_isEither 1 (some .boolean))  {R : Int32} (hf : b_X6_isEither_9  = some R) : ∀ (H : Heap) (locs : List Loc) (ls : Array Slot), va_P (dC, dI) vwCl [] H → va_D A [] → va_S A s.heap H locs → lv_has ls 1 [] → W p l e rmX6_isEither s m args below meth c H locs 0 0 (MQ below (qI (dC, dI) (q_T cI cJ cZ) [] R A) args s 0 0 A) (F0 m 9 ls []) := by
  obtain ⟨hx, hb, hml, hown, hts, hrt, hlk, hK, hX, hA⟩ := id C0
  intro H locs ls hP hD hS hl
  unfold b_X6_isEither_9 at hf
  refine lv_iconst (v := 1) hx hb dX6_isEither_9 (by decide) ?_
  refine lv_goto (tgt := 14) hx hb dX6_isEither_10 (by decide) ?_
  obtain rfl := Option.some.inj hf
  exact q_retZ C0 (by rfl) hP hD hS dX6_isEither_14
set_option maxHeartbeats 4000000 in
set_option maxRecDepth 100000 in
theorem B_X6_isEither_0 {p : Program} {l : Launch} {e : Env} {s : State} {m : MethodId} {args : Array Value} {below : List Frame} {meth : Method} {c : Code} {A : Nat → Prop} {dC : Nat → ClassId} {dI : Nat → Nat → Nat} {cI cJ cZ : ClassId} (C0 : q_C p s m args meth c (dC, dI) (q_T cI cJ cZ) A RX6 wsX6_isEither cX6_isEither 1 (some .boolean)) {x0 : Int32} {R : Int32} (hf : f_X6_isEither x0 = some R) : ∀ (H : Heap) (locs : List Loc) (ls : Array Slot), va_P (dC, dI) vwCl [] H → va_D A [] → va_S A s.heap H locs → lv_has ls 1 [(0, .int x0)] → W p l e rmX6_isEither s m args below meth c H locs 0 0 (MQ below (qI (dC, dI) (q_T cI cJ cZ) [] R A) args s 0 0 A) (F0 m 0 ls []) := by
  obtain ⟨hx, hb, hml, hown, hts, hrt, hlk, hK, hX, hA⟩ := id C0
  intro H locs ls hP hD hS hl
  unfold f_X6_isEither at hf
  refine lv_iload_n hx hb dX6_isEither_0 rfl (lv_at hl 0 rfl) ?_
  refine lv_if_eq (tgt := 9) hx hb dX6_isEither_1 (by decide) (fun hc1 => ?_) (fun hc1 => ?_)
  · have hf := q_if hf hc1
    exact B_X6_isEither_9 C0 hf H locs ls hP hD hS (lv_sub hl [] rfl)
  · have hf := q_nif hf hc1
    refine lv_iload_n hx hb dX6_isEither_4 rfl (lv_at hl 0 rfl) ?_
    refine lv_iconst (v := 1) hx hb dX6_isEither_5 (by decide) ?_
    refine lv_icmp_ne (tgt := 13) hx hb dX6_isEither_6 (by decide) (fun hc2 => ?_) (fun hc2 => ?_)
    · have hf := q_nif hf hc2
      refine lv_iconst (v := 0) hx hb dX6_isEither_13 (by decide) ?_
      obtain rfl := Option.some.inj hf
      exact q_retZ C0 (by rfl) hP hD hS dX6_isEither_14
    · have hf := q_if hf hc2
      exact B_X6_isEither_9 C0 hf H locs ls hP hD hS (lv_sub hl [] rfl)
set_option maxHeartbeats 4000000 in
set_option maxRecDepth 100000 in
theorem c_X6_isEither {l : Launch} {dC : Nat → ClassId} {dI : Nat → Nat → Nat} {cI cJ cZ : ClassId} {x0 : Int32} {R : Int32} (hf : f_X6_isEither x0 = some R) : q_M l yX6_isEither wsX6_isEither rmX6_isEither (dC, dI) (q_T cI cJ cZ) [.int x0] [] (qI (dC, dI) (q_T cI cJ cZ) [] R) := by
  refine q_body (cc := cX6_isEither) (maxL := 1) (ret := (some .boolean)) (by decide) rfl (Nat.le_of_ble_eq_true rfl) ?_
  intro p e s m args below meth c A C0 ls hP hD hS hl
  have hl : lv_has ls 1 [(0, .int x0)] := hl
  exact B_X6_isEither_0 C0 hf s.heap [] ls hP hD hS hl
/-! ## RungPlay.asked -/
abbrev rmX6_asked : Room := { frames := 0, cells := 0, slots := 0, locals := 0 }
noncomputable def f_X6_asked (x0 : Int32) : Option (Int32) :=
  (if x0 = 0 then (some 1) else (if x0 = 1 then (some 11) else (some 111)))
set_option maxHeartbeats 4000000 in
set_option maxRecDepth 100000 in
theorem B_X6_asked_0 {p : Program} {l : Launch} {e : Env} {s : State} {m : MethodId} {args : Array Value} {below : List Frame} {meth : Method} {c : Code} {A : Nat → Prop} {dC : Nat → ClassId} {dI : Nat → Nat → Nat} {cI cJ cZ : ClassId} (C0 : q_C p s m args meth c (dC, dI) (q_T cI cJ cZ) A RX6 wsX6_asked cX6_asked 1 (some .int)) {x0 : Int32} {R : Int32} (hf : f_X6_asked x0 = some R) : ∀ (H : Heap) (locs : List Loc) (ls : Array Slot), va_P (dC, dI) vwCl [] H → va_D A [] → va_S A s.heap H locs → lv_has ls 1 [(0, .int x0)] → W p l e rmX6_asked s m args below meth c H locs 0 0 (MQ below (qI (dC, dI) (q_T cI cJ cZ) [] R A) args s 0 0 A) (F0 m 0 ls []) := by
  obtain ⟨hx, hb, hml, hown, hts, hrt, hlk, hK, hX, hA⟩ := id C0
  intro H locs ls hP hD hS hl
  unfold f_X6_asked at hf
  refine lv_iload_n hx hb dX6_asked_0 rfl (lv_at hl 0 rfl) ?_
  refine lv_if_ne (tgt := 8) hx hb dX6_asked_1 (by decide) (fun hc1 => ?_) (fun hc1 => ?_)
  · have hf := q_nif hf hc1
    refine lv_iload_n hx hb dX6_asked_8 rfl (lv_at hl 0 rfl) ?_
    refine lv_iconst (v := 1) hx hb dX6_asked_9 (by decide) ?_
    refine lv_icmp_ne (tgt := 18) hx hb dX6_asked_10 (by decide) (fun hc2 => ?_) (fun hc2 => ?_)
    · have hf := q_nif hf hc2
      refine lv_bipush (v := 111) hx hb dX6_asked_18 (by decide) ?_
      obtain rfl := Option.some.inj hf
      exact q_retI C0 hP hD hS dX6_asked_20
    · have hf := q_if hf hc2
      refine lv_bipush (v := 11) hx hb dX6_asked_13 (by decide) ?_
      refine lv_goto (tgt := 20) hx hb dX6_asked_15 (by decide) ?_
      obtain rfl := Option.some.inj hf
      exact q_retI C0 hP hD hS dX6_asked_20
  · have hf := q_if hf hc1
    refine lv_iconst (v := 1) hx hb dX6_asked_4 (by decide) ?_
    refine lv_goto (tgt := 20) hx hb dX6_asked_5 (by decide) ?_
    obtain rfl := Option.some.inj hf
    exact q_retI C0 hP hD hS dX6_asked_20
set_option maxHeartbeats 4000000 in
set_option maxRecDepth 100000 in
theorem c_X6_asked {l : Launch} {dC : Nat → ClassId} {dI : Nat → Nat → Nat} {cI cJ cZ : ClassId} {x0 : Int32} {R : Int32} (hf : f_X6_asked x0 = some R) : q_M l yX6_asked wsX6_asked rmX6_asked (dC, dI) (q_T cI cJ cZ) [.int x0] [] (qI (dC, dI) (q_T cI cJ cZ) [] R) := by
  refine q_body (cc := cX6_asked) (maxL := 1) (ret := (some .int)) (by decide) rfl (Nat.le_of_ble_eq_true rfl) ?_
  intro p e s m args below meth c A C0 ls hP hD hS hl
  have hl : lv_has ls 1 [(0, .int x0)] := hl
  exact B_X6_asked_0 C0 hf s.heap [] ls hP hD hS hl
/-! ## RungPlay$Rules.leader -/
abbrev rmX5_leader : Room := { frames := 0, cells := 0, slots := 0, locals := 0 }
noncomputable def f_X5_leader (x0 : Int32) (x1 : Int32) : Option (Int32) :=
  (if x0 ≤ x1 then (if x1 ≤ x0 then (some 0) else (some 2)) else (some 1))
set_option maxHeartbeats 4000000 in
set_option maxRecDepth 100000 in
theorem B_X5_leader_0 {p : Program} {l : Launch} {e : Env} {s : State} {m : MethodId} {args : Array Value} {below : List Frame} {meth : Method} {c : Code} {A : Nat → Prop} {dC : Nat → ClassId} {dI : Nat → Nat → Nat} {cI cJ cZ : ClassId} (C0 : q_C p s m args meth c (dC, dI) (q_T cI cJ cZ) A RX5 wsX5_leader cX5_leader 2 (some .int)) {x0 : Int32} {x1 : Int32} {R : Int32} (hf : f_X5_leader x0 x1 = some R) : ∀ (H : Heap) (locs : List Loc) (ls : Array Slot), va_P (dC, dI) vwCl [] H → va_D A [] → va_S A s.heap H locs → lv_has ls 2 [(0, .int x0), (1, .int x1)] → W p l e rmX5_leader s m args below meth c H locs 0 0 (MQ below (qI (dC, dI) (q_T cI cJ cZ) [] R A) args s 0 0 A) (F0 m 0 ls []) := by
  obtain ⟨hx, hb, hml, hown, hts, hrt, hlk, hK, hX, hA⟩ := id C0
  intro H locs ls hP hD hS hl
  unfold f_X5_leader at hf
  refine lv_iload_n hx hb dX5_leader_0 rfl (lv_at hl 0 rfl) ?_
  refine lv_iload_n hx hb dX5_leader_1 rfl (lv_at hl 1 rfl) ?_
  refine lv_icmp_le (tgt := 9) hx hb dX5_leader_2 (by decide) (fun hc1 => ?_) (fun hc1 => ?_)
  · have hf := q_if hf hc1
    refine lv_iload_n hx hb dX5_leader_9 rfl (lv_at hl 0 rfl) ?_
    refine lv_iload_n hx hb dX5_leader_10 rfl (lv_at hl 1 rfl) ?_
    refine lv_icmp_ge (tgt := 18) hx hb dX5_leader_11 (by decide) (fun hc2 => ?_) (fun hc2 => ?_)
    · have hf := q_if hf hc2
      refine lv_iconst (v := 0) hx hb dX5_leader_18 (by decide) ?_
      obtain rfl := Option.some.inj hf
      exact q_retI C0 hP hD hS dX5_leader_19
    · have hf := q_nif hf hc2
      refine lv_iconst (v := 2) hx hb dX5_leader_14 (by decide) ?_
      refine lv_goto (tgt := 19) hx hb dX5_leader_15 (by decide) ?_
      obtain rfl := Option.some.inj hf
      exact q_retI C0 hP hD hS dX5_leader_19
  · have hf := q_nif hf hc1
    refine lv_iconst (v := 1) hx hb dX5_leader_5 (by decide) ?_
    refine lv_goto (tgt := 19) hx hb dX5_leader_6 (by decide) ?_
    obtain rfl := Option.some.inj hf
    exact q_retI C0 hP hD hS dX5_leader_19
set_option maxHeartbeats 4000000 in
set_option maxRecDepth 100000 in
theorem c_X5_leader {l : Launch} {dC : Nat → ClassId} {dI : Nat → Nat → Nat} {cI cJ cZ : ClassId} {x0 : Int32} {x1 : Int32} {R : Int32} (hf : f_X5_leader x0 x1 = some R) : q_M l yX5_leader wsX5_leader rmX5_leader (dC, dI) (q_T cI cJ cZ) [.int x0, .int x1] [] (qI (dC, dI) (q_T cI cJ cZ) [] R) := by
  refine q_body (cc := cX5_leader) (maxL := 2) (ret := (some .int)) (by decide) rfl (Nat.le_of_ble_eq_true rfl) ?_
  intro p e s m args below meth c A C0 ls hP hD hS hl
  have hl : lv_has ls 2 [(0, .int x0), (1, .int x1)] := hl
  exact B_X5_leader_0 C0 hf s.heap [] ls hP hD hS hl
/-! ## RungPlay$Rules.told -/
abbrev rmX5_told : Room := { frames := 0, cells := 0, slots := 0, locals := 0 }
theorem m_X5_told_f9 : Cond.fieldLink RX5 9 RX5 "tenthsOnServeOfA" "I" ∈ wsX5_told := by decide +kernel
theorem in_X5_told_X5 : ∀ w ∈ wsX50, w ∈ wsX5_told := by decide +kernel
theorem m_X5_told_f15 : Cond.fieldLink RX5 15 RX5 "tenthsOnServeOfB" "I" ∈ wsX5_told := by decide +kernel
theorem m_X5_told_f18 : Cond.fieldLink RX5 18 RX5 "toPoints" "I" ∈ wsX5_told := by decide +kernel
theorem m_X5_told_f21 : Cond.fieldLink RX5 21 RX5 "toGames" "I" ∈ wsX5_told := by decide +kernel
theorem m_X5_told_f24 : Cond.fieldLink RX5 24 RX5 "toSets" "I" ∈ wsX5_told := by decide +kernel
theorem m_X5_told_f27 : Cond.fieldLink RX5 27 RX5 "headStart" "I" ∈ wsX5_told := by decide +kernel
theorem m_X5_told_f30 : Cond.fieldLink RX5 30 RX5 "kind" "I" ∈ wsX5_told := by decide +kernel
noncomputable def f_X5_told (x1 : Int32) (r : (Nat → Int32)) : Option (Int32) :=
  (if x1 = 0 then (some (r 0)) else (if x1 = 1 then (some (r 1)) else (if x1 = 2 then (some (r 2)) else (if x1 = 3 then (some (r 3)) else (if x1 = 4 then (some (r 4)) else (if x1 = 5 then (some (r 5)) else (if x1 = 6 then (some (r 6)) else (some (-1)))))))))
set_option maxHeartbeats 4000000 in
set_option maxRecDepth 100000 in
theorem B_X5_told_0 {p : Program} {l : Launch} {e : Env} {s : State} {m : MethodId} {args : Array Value} {below : List Frame} {meth : Method} {c : Code} {A : Nat → Prop} {dC : Nat → ClassId} {dI : Nat → Nat → Nat} {cI cJ cZ : ClassId} {aR : Nat} (C0 : q_C p s m args meth c (dC, dI) (q_T cI cJ cZ) A RX5 wsX5_told cX5_told 2 (some .int)) {x1 : Int32} {r : (Nat → Int32)} {R : Int32} (hf : f_X5_told x1 r = some R) : ∀ (H : Heap) (locs : List Loc) (ls : Array Slot), va_P (dC, dI) vwCl [(aR, .inr (5, [.int (r 0), .int (r 1), .int (r 2), .int (r 3), .int (r 4), .int (r 5), .int (r 6)]))] H → va_D A [(aR, .inr (5, [.int (r 0), .int (r 1), .int (r 2), .int (r 3), .int (r 4), .int (r 5), .int (r 6)]))] → va_S A s.heap H locs → lv_has ls 2 [(0, .ref aR), (1, .int x1)] → W p l e rmX5_told s m args below meth c H locs 0 0 (MQ below (qI (dC, dI) (q_T cI cJ cZ) [(aR, .inr (5, [.int (r 0), .int (r 1), .int (r 2), .int (r 3), .int (r 4), .int (r 5), .int (r 6)]))] R A) args s 0 0 A) (F0 m 0 ls []) := by
  obtain ⟨hx, hb, hml, hown, hts, hrt, hlk, hK, hX, hA⟩ := id C0
  intro H locs ls hP hD hS hl
  unfold f_X5_told at hf
  refine lv_iload_n hx hb dX5_told_0 rfl (lv_at hl 1 rfl) ?_
  by_cases hs1 : x1 = 0
  · have hf := q_if hf hs1
    refine lv_tableIn (off := 43) (tgt := 44) hx hb dX5_told_1 (by rw [hs1]; decide) (by rw [hs1]; decide) (by rw [hs1]; rfl) (by decide) ?_
    refine lv_aload_n hx hb dX5_told_44 rfl (lv_at hl 0 rfl) ?_
    refine q_get (TT := TX5) C0 in_X5_told_X5 0 m_X5_told_f9 hP 0 rfl rfl (by decide) rfl rfl dX5_told_45 ?_
    obtain rfl := Option.some.inj hf
    exact q_retI C0 hP hD hS dX5_told_48
  have hf := q_nif hf hs1
  by_cases hs2 : x1 = 1
  · have hf := q_if hf hs2
    refine lv_tableIn (off := 48) (tgt := 49) hx hb dX5_told_1 (by rw [hs2]; decide) (by rw [hs2]; decide) (by rw [hs2]; rfl) (by decide) ?_
    refine lv_aload_n hx hb dX5_told_49 rfl (lv_at hl 0 rfl) ?_
    refine q_get (TT := TX5) C0 in_X5_told_X5 1 m_X5_told_f15 hP 0 rfl rfl (by decide) rfl rfl dX5_told_50 ?_
    obtain rfl := Option.some.inj hf
    exact q_retI C0 hP hD hS dX5_told_53
  have hf := q_nif hf hs2
  by_cases hs3 : x1 = 2
  · have hf := q_if hf hs3
    refine lv_tableIn (off := 53) (tgt := 54) hx hb dX5_told_1 (by rw [hs3]; decide) (by rw [hs3]; decide) (by rw [hs3]; rfl) (by decide) ?_
    refine lv_aload_n hx hb dX5_told_54 rfl (lv_at hl 0 rfl) ?_
    refine q_get (TT := TX5) C0 in_X5_told_X5 2 m_X5_told_f18 hP 0 rfl rfl (by decide) rfl rfl dX5_told_55 ?_
    obtain rfl := Option.some.inj hf
    exact q_retI C0 hP hD hS dX5_told_58
  have hf := q_nif hf hs3
  by_cases hs4 : x1 = 3
  · have hf := q_if hf hs4
    refine lv_tableIn (off := 58) (tgt := 59) hx hb dX5_told_1 (by rw [hs4]; decide) (by rw [hs4]; decide) (by rw [hs4]; rfl) (by decide) ?_
    refine lv_aload_n hx hb dX5_told_59 rfl (lv_at hl 0 rfl) ?_
    refine q_get (TT := TX5) C0 in_X5_told_X5 3 m_X5_told_f21 hP 0 rfl rfl (by decide) rfl rfl dX5_told_60 ?_
    obtain rfl := Option.some.inj hf
    exact q_retI C0 hP hD hS dX5_told_63
  have hf := q_nif hf hs4
  by_cases hs5 : x1 = 4
  · have hf := q_if hf hs5
    refine lv_tableIn (off := 63) (tgt := 64) hx hb dX5_told_1 (by rw [hs5]; decide) (by rw [hs5]; decide) (by rw [hs5]; rfl) (by decide) ?_
    refine lv_aload_n hx hb dX5_told_64 rfl (lv_at hl 0 rfl) ?_
    refine q_get (TT := TX5) C0 in_X5_told_X5 4 m_X5_told_f24 hP 0 rfl rfl (by decide) rfl rfl dX5_told_65 ?_
    obtain rfl := Option.some.inj hf
    exact q_retI C0 hP hD hS dX5_told_68
  have hf := q_nif hf hs5
  by_cases hs6 : x1 = 5
  · have hf := q_if hf hs6
    refine lv_tableIn (off := 68) (tgt := 69) hx hb dX5_told_1 (by rw [hs6]; decide) (by rw [hs6]; decide) (by rw [hs6]; rfl) (by decide) ?_
    refine lv_aload_n hx hb dX5_told_69 rfl (lv_at hl 0 rfl) ?_
    refine q_get (TT := TX5) C0 in_X5_told_X5 5 m_X5_told_f27 hP 0 rfl rfl (by decide) rfl rfl dX5_told_70 ?_
    obtain rfl := Option.some.inj hf
    exact q_retI C0 hP hD hS dX5_told_73
  have hf := q_nif hf hs6
  by_cases hs7 : x1 = 6
  · have hf := q_if hf hs7
    refine lv_tableIn (off := 73) (tgt := 74) hx hb dX5_told_1 (by rw [hs7]; decide) (by rw [hs7]; decide) (by rw [hs7]; rfl) (by decide) ?_
    refine lv_aload_n hx hb dX5_told_74 rfl (lv_at hl 0 rfl) ?_
    refine q_get (TT := TX5) C0 in_X5_told_X5 6 m_X5_told_f30 hP 0 rfl rfl (by decide) rfl rfl dX5_told_75 ?_
    obtain rfl := Option.some.inj hf
    exact q_retI C0 hP hD hS dX5_told_78
  have hf := q_nif hf hs7
  refine lv_tableOut (tgt := 79) hx hb dX5_told_1 (by have n0 := lv_neT (a := 0) hs1 rfl; have n1 := lv_neT (a := 1) hs2 rfl; have n2 := lv_neT (a := 2) hs3 rfl; have n3 := lv_neT (a := 3) hs4 rfl; have n4 := lv_neT (a := 4) hs5 rfl; have n5 := lv_neT (a := 5) hs6 rfl; have n6 := lv_neT (a := 6) hs7 rfl; omega) (by decide) ?_
  refine lv_iconst (v := (-1)) hx hb dX5_told_79 (by decide) ?_
  obtain rfl := Option.some.inj hf
  exact q_retI C0 hP hD hS dX5_told_80
set_option maxHeartbeats 4000000 in
set_option maxRecDepth 100000 in
theorem c_X5_told {l : Launch} {dC : Nat → ClassId} {dI : Nat → Nat → Nat} {cI cJ cZ : ClassId} {aR : Nat} {x1 : Int32} {r : (Nat → Int32)} {R : Int32} (hf : f_X5_told x1 r = some R) : q_M l yX5_told wsX5_told rmX5_told (dC, dI) (q_T cI cJ cZ) [.ref aR, .int x1] [(aR, .inr (5, [.int (r 0), .int (r 1), .int (r 2), .int (r 3), .int (r 4), .int (r 5), .int (r 6)]))] (qI (dC, dI) (q_T cI cJ cZ) [(aR, .inr (5, [.int (r 0), .int (r 1), .int (r 2), .int (r 3), .int (r 4), .int (r 5), .int (r 6)]))] R) := by
  refine q_body (cc := cX5_told) (maxL := 2) (ret := (some .int)) (by decide) rfl (Nat.le_of_ble_eq_true rfl) ?_
  intro p e s m args below meth c A C0 ls hP hD hS hl
  have hl : lv_has ls 2 [(0, .ref aR), (1, .int x1)] := hl
  exact B_X5_told_0 C0 hf s.heap [] ls hP hD hS hl
/-! ## RungPlay$Rules.tell -/
abbrev rmX5_tell : Room := { frames := 0, cells := 0, slots := 0, locals := 0 }
theorem m_X5_tell_f9 : Cond.fieldLink RX5 9 RX5 "tenthsOnServeOfA" "I" ∈ wsX5_tell := by decide +kernel
theorem in_X5_tell_X5 : ∀ w ∈ wsX50, w ∈ wsX5_tell := by decide +kernel
theorem m_X5_tell_f15 : Cond.fieldLink RX5 15 RX5 "tenthsOnServeOfB" "I" ∈ wsX5_tell := by decide +kernel
theorem m_X5_tell_f18 : Cond.fieldLink RX5 18 RX5 "toPoints" "I" ∈ wsX5_tell := by decide +kernel
theorem m_X5_tell_f27 : Cond.fieldLink RX5 27 RX5 "headStart" "I" ∈ wsX5_tell := by decide +kernel
theorem m_X5_tell_f21 : Cond.fieldLink RX5 21 RX5 "toGames" "I" ∈ wsX5_tell := by decide +kernel
theorem m_X5_tell_f24 : Cond.fieldLink RX5 24 RX5 "toSets" "I" ∈ wsX5_tell := by decide +kernel
theorem m_X5_tell_f30 : Cond.fieldLink RX5 30 RX5 "kind" "I" ∈ wsX5_tell := by decide +kernel
noncomputable def f_X5_tell (x1 : Int32) (x2 : Int32) (r : (Nat → Int32)) : Option ((Nat → Int32)) :=
  (if x1 = 0 then (some (mk7 x2 (r 1) (r 2) (r 3) (r 4) (r 5) (r 6))) else (if x1 = 1 then (some (mk7 (r 0) x2 (r 2) (r 3) (r 4) (r 5) (r 6))) else (if x1 = 2 then (some (mk7 (r 0) (r 1) x2 (r 3) (r 4) 0 (r 6))) else (if x1 = 3 then (some (mk7 (r 0) (r 1) (r 2) x2 (r 4) (r 5) (r 6))) else (if x1 = 4 then (some (mk7 (r 0) (r 1) (r 2) (r 3) x2 (r 5) (r 6))) else (if x1 = 5 then (some (mk7 (r 0) (r 1) (r 2) (r 3) (r 4) x2 (r 6))) else (if x1 = 6 then (some (mk7 (r 0) (r 1) (r 2) (r 3) (r 4) (r 5) x2)) else (some r))))))))
set_option maxHeartbeats 4000000 in
set_option maxRecDepth 100000 in
theorem B_X5_tell_0 {p : Program} {l : Launch} {e : Env} {s : State} {m : MethodId} {args : Array Value} {below : List Frame} {meth : Method} {c : Code} {A : Nat → Prop} {dC : Nat → ClassId} {dI : Nat → Nat → Nat} {cI cJ cZ : ClassId} {aR : Nat} (C0 : q_C p s m args meth c (dC, dI) (q_T cI cJ cZ) A RX5 wsX5_tell cX5_tell 3 none) {x1 : Int32} {x2 : Int32} {r : (Nat → Int32)} {R : (Nat → Int32)} (hf : f_X5_tell x1 x2 r = some R) : ∀ (H : Heap) (locs : List Loc) (ls : Array Slot), va_P (dC, dI) vwCl [(aR, .inr (5, [.int (r 0), .int (r 1), .int (r 2), .int (r 3), .int (r 4), .int (r 5), .int (r 6)]))] H → va_D A [(aR, .inr (5, [.int (r 0), .int (r 1), .int (r 2), .int (r 3), .int (r 4), .int (r 5), .int (r 6)]))] → va_S A s.heap H locs → lv_has ls 3 [(0, .ref aR), (1, .int x1), (2, .int x2)] → W p l e rmX5_tell s m args below meth c H locs 0 0 (MQ below (qV (dC, dI) (q_T cI cJ cZ) [(aR, .inr (5, [.int (R 0), .int (R 1), .int (R 2), .int (R 3), .int (R 4), .int (R 5), .int (R 6)]))] A) args s 0 0 A) (F0 m 0 ls []) := by
  obtain ⟨hx, hb, hml, hown, hts, hrt, hlk, hK, hX, hA⟩ := id C0
  intro H locs ls hP hD hS hl
  unfold f_X5_tell at hf
  refine lv_iload_n hx hb dX5_tell_0 rfl (lv_at hl 1 rfl) ?_
  by_cases hs1 : x1 = 0
  · have hf := q_if hf hs1
    refine lv_tableIn (off := 43) (tgt := 44) hx hb dX5_tell_1 (by rw [hs1]; decide) (by rw [hs1]; decide) (by rw [hs1]; rfl) (by decide) ?_
    refine lv_aload_n hx hb dX5_tell_44 rfl (lv_at hl 0 rfl) ?_
    refine lv_iload_n hx hb dX5_tell_45 rfl (lv_at hl 2 rfl) ?_
    refine q_put (ty := .int) (TT := TX5) C0 in_X5_tell_X5 tyX5 tyX5_ok nmX5 0 m_X5_tell_f9 hP hD hS 0 rfl rfl (by decide) rfl rfl (by decide +kernel) rfl rfl (Nat.le_of_ble_eq_true rfl) dX5_tell_46 (fun H locs hP hD hS => ?_)
    have hP : va_P (dC, dI) vwCl [(aR, .inr (5, [.int x2, .int (r 1), .int (r 2), .int (r 3), .int (r 4), .int (r 5), .int (r 6)]))] H := hP
    have hD : va_D A [(aR, .inr (5, [.int x2, .int (r 1), .int (r 2), .int (r 3), .int (r 4), .int (r 5), .int (r 6)]))] := hD
    refine lv_goto (tgt := 105) hx hb dX5_tell_49 (by decide) ?_
    obtain rfl := Option.some.inj hf
    exact q_retV C0 hP hD hS dX5_tell_105
  have hf := q_nif hf hs1
  by_cases hs2 : x1 = 1
  · have hf := q_if hf hs2
    refine lv_tableIn (off := 51) (tgt := 52) hx hb dX5_tell_1 (by rw [hs2]; decide) (by rw [hs2]; decide) (by rw [hs2]; rfl) (by decide) ?_
    refine lv_aload_n hx hb dX5_tell_52 rfl (lv_at hl 0 rfl) ?_
    refine lv_iload_n hx hb dX5_tell_53 rfl (lv_at hl 2 rfl) ?_
    refine q_put (ty := .int) (TT := TX5) C0 in_X5_tell_X5 tyX5 tyX5_ok nmX5 1 m_X5_tell_f15 hP hD hS 0 rfl rfl (by decide) rfl rfl (by decide +kernel) rfl rfl (Nat.le_of_ble_eq_true rfl) dX5_tell_54 (fun H locs hP hD hS => ?_)
    have hP : va_P (dC, dI) vwCl [(aR, .inr (5, [.int (r 0), .int x2, .int (r 2), .int (r 3), .int (r 4), .int (r 5), .int (r 6)]))] H := hP
    have hD : va_D A [(aR, .inr (5, [.int (r 0), .int x2, .int (r 2), .int (r 3), .int (r 4), .int (r 5), .int (r 6)]))] := hD
    refine lv_goto (tgt := 105) hx hb dX5_tell_57 (by decide) ?_
    obtain rfl := Option.some.inj hf
    exact q_retV C0 hP hD hS dX5_tell_105
  have hf := q_nif hf hs2
  by_cases hs3 : x1 = 2
  · have hf := q_if hf hs3
    refine lv_tableIn (off := 59) (tgt := 60) hx hb dX5_tell_1 (by rw [hs3]; decide) (by rw [hs3]; decide) (by rw [hs3]; rfl) (by decide) ?_
    refine lv_aload_n hx hb dX5_tell_60 rfl (lv_at hl 0 rfl) ?_
    refine lv_iload_n hx hb dX5_tell_61 rfl (lv_at hl 2 rfl) ?_
    refine q_put (ty := .int) (TT := TX5) C0 in_X5_tell_X5 tyX5 tyX5_ok nmX5 2 m_X5_tell_f18 hP hD hS 0 rfl rfl (by decide) rfl rfl (by decide +kernel) rfl rfl (Nat.le_of_ble_eq_true rfl) dX5_tell_62 (fun H locs hP hD hS => ?_)
    have hP : va_P (dC, dI) vwCl [(aR, .inr (5, [.int (r 0), .int (r 1), .int x2, .int (r 3), .int (r 4), .int (r 5), .int (r 6)]))] H := hP
    have hD : va_D A [(aR, .inr (5, [.int (r 0), .int (r 1), .int x2, .int (r 3), .int (r 4), .int (r 5), .int (r 6)]))] := hD
    refine lv_aload_n hx hb dX5_tell_65 rfl (lv_at hl 0 rfl) ?_
    refine lv_iconst (v := 0) hx hb dX5_tell_66 (by decide) ?_
    refine q_put (ty := .int) (TT := TX5) C0 in_X5_tell_X5 tyX5 tyX5_ok nmX5 5 m_X5_tell_f27 hP hD hS 0 rfl rfl (by decide) rfl rfl (by decide +kernel) rfl rfl (Nat.le_of_ble_eq_true rfl) dX5_tell_67 (fun H locs hP hD hS => ?_)
    have hP : va_P (dC, dI) vwCl [(aR, .inr (5, [.int (r 0), .int (r 1), .int x2, .int (r 3), .int (r 4), .int 0, .int (r 6)]))] H := hP
    have hD : va_D A [(aR, .inr (5, [.int (r 0), .int (r 1), .int x2, .int (r 3), .int (r 4), .int 0, .int (r 6)]))] := hD
    refine lv_goto (tgt := 105) hx hb dX5_tell_70 (by decide) ?_
    obtain rfl := Option.some.inj hf
    exact q_retV C0 hP hD hS dX5_tell_105
  have hf := q_nif hf hs3
  by_cases hs4 : x1 = 3
  · have hf := q_if hf hs4
    refine lv_tableIn (off := 72) (tgt := 73) hx hb dX5_tell_1 (by rw [hs4]; decide) (by rw [hs4]; decide) (by rw [hs4]; rfl) (by decide) ?_
    refine lv_aload_n hx hb dX5_tell_73 rfl (lv_at hl 0 rfl) ?_
    refine lv_iload_n hx hb dX5_tell_74 rfl (lv_at hl 2 rfl) ?_
    refine q_put (ty := .int) (TT := TX5) C0 in_X5_tell_X5 tyX5 tyX5_ok nmX5 3 m_X5_tell_f21 hP hD hS 0 rfl rfl (by decide) rfl rfl (by decide +kernel) rfl rfl (Nat.le_of_ble_eq_true rfl) dX5_tell_75 (fun H locs hP hD hS => ?_)
    have hP : va_P (dC, dI) vwCl [(aR, .inr (5, [.int (r 0), .int (r 1), .int (r 2), .int x2, .int (r 4), .int (r 5), .int (r 6)]))] H := hP
    have hD : va_D A [(aR, .inr (5, [.int (r 0), .int (r 1), .int (r 2), .int x2, .int (r 4), .int (r 5), .int (r 6)]))] := hD
    refine lv_goto (tgt := 105) hx hb dX5_tell_78 (by decide) ?_
    obtain rfl := Option.some.inj hf
    exact q_retV C0 hP hD hS dX5_tell_105
  have hf := q_nif hf hs4
  by_cases hs5 : x1 = 4
  · have hf := q_if hf hs5
    refine lv_tableIn (off := 80) (tgt := 81) hx hb dX5_tell_1 (by rw [hs5]; decide) (by rw [hs5]; decide) (by rw [hs5]; rfl) (by decide) ?_
    refine lv_aload_n hx hb dX5_tell_81 rfl (lv_at hl 0 rfl) ?_
    refine lv_iload_n hx hb dX5_tell_82 rfl (lv_at hl 2 rfl) ?_
    refine q_put (ty := .int) (TT := TX5) C0 in_X5_tell_X5 tyX5 tyX5_ok nmX5 4 m_X5_tell_f24 hP hD hS 0 rfl rfl (by decide) rfl rfl (by decide +kernel) rfl rfl (Nat.le_of_ble_eq_true rfl) dX5_tell_83 (fun H locs hP hD hS => ?_)
    have hP : va_P (dC, dI) vwCl [(aR, .inr (5, [.int (r 0), .int (r 1), .int (r 2), .int (r 3), .int x2, .int (r 5), .int (r 6)]))] H := hP
    have hD : va_D A [(aR, .inr (5, [.int (r 0), .int (r 1), .int (r 2), .int (r 3), .int x2, .int (r 5), .int (r 6)]))] := hD
    refine lv_goto (tgt := 105) hx hb dX5_tell_86 (by decide) ?_
    obtain rfl := Option.some.inj hf
    exact q_retV C0 hP hD hS dX5_tell_105
  have hf := q_nif hf hs5
  by_cases hs6 : x1 = 5
  · have hf := q_if hf hs6
    refine lv_tableIn (off := 88) (tgt := 89) hx hb dX5_tell_1 (by rw [hs6]; decide) (by rw [hs6]; decide) (by rw [hs6]; rfl) (by decide) ?_
    refine lv_aload_n hx hb dX5_tell_89 rfl (lv_at hl 0 rfl) ?_
    refine lv_iload_n hx hb dX5_tell_90 rfl (lv_at hl 2 rfl) ?_
    refine q_put (ty := .int) (TT := TX5) C0 in_X5_tell_X5 tyX5 tyX5_ok nmX5 5 m_X5_tell_f27 hP hD hS 0 rfl rfl (by decide) rfl rfl (by decide +kernel) rfl rfl (Nat.le_of_ble_eq_true rfl) dX5_tell_91 (fun H locs hP hD hS => ?_)
    have hP : va_P (dC, dI) vwCl [(aR, .inr (5, [.int (r 0), .int (r 1), .int (r 2), .int (r 3), .int (r 4), .int x2, .int (r 6)]))] H := hP
    have hD : va_D A [(aR, .inr (5, [.int (r 0), .int (r 1), .int (r 2), .int (r 3), .int (r 4), .int x2, .int (r 6)]))] := hD
    refine lv_goto (tgt := 105) hx hb dX5_tell_94 (by decide) ?_
    obtain rfl := Option.some.inj hf
    exact q_retV C0 hP hD hS dX5_tell_105
  have hf := q_nif hf hs6
  by_cases hs7 : x1 = 6
  · have hf := q_if hf hs7
    refine lv_tableIn (off := 96) (tgt := 97) hx hb dX5_tell_1 (by rw [hs7]; decide) (by rw [hs7]; decide) (by rw [hs7]; rfl) (by decide) ?_
    refine lv_aload_n hx hb dX5_tell_97 rfl (lv_at hl 0 rfl) ?_
    refine lv_iload_n hx hb dX5_tell_98 rfl (lv_at hl 2 rfl) ?_
    refine q_put (ty := .int) (TT := TX5) C0 in_X5_tell_X5 tyX5 tyX5_ok nmX5 6 m_X5_tell_f30 hP hD hS 0 rfl rfl (by decide) rfl rfl (by decide +kernel) rfl rfl (Nat.le_of_ble_eq_true rfl) dX5_tell_99 (fun H locs hP hD hS => ?_)
    have hP : va_P (dC, dI) vwCl [(aR, .inr (5, [.int (r 0), .int (r 1), .int (r 2), .int (r 3), .int (r 4), .int (r 5), .int x2]))] H := hP
    have hD : va_D A [(aR, .inr (5, [.int (r 0), .int (r 1), .int (r 2), .int (r 3), .int (r 4), .int (r 5), .int x2]))] := hD
    refine lv_goto (tgt := 105) hx hb dX5_tell_102 (by decide) ?_
    obtain rfl := Option.some.inj hf
    exact q_retV C0 hP hD hS dX5_tell_105
  have hf := q_nif hf hs7
  refine lv_tableOut (tgt := 105) hx hb dX5_tell_1 (by have n0 := lv_neT (a := 0) hs1 rfl; have n1 := lv_neT (a := 1) hs2 rfl; have n2 := lv_neT (a := 2) hs3 rfl; have n3 := lv_neT (a := 3) hs4 rfl; have n4 := lv_neT (a := 4) hs5 rfl; have n5 := lv_neT (a := 5) hs6 rfl; have n6 := lv_neT (a := 6) hs7 rfl; omega) (by decide) ?_
  obtain rfl := Option.some.inj hf
  exact q_retV C0 hP hD hS dX5_tell_105
set_option maxHeartbeats 4000000 in
set_option maxRecDepth 100000 in
theorem c_X5_tell {l : Launch} {dC : Nat → ClassId} {dI : Nat → Nat → Nat} {cI cJ cZ : ClassId} {aR : Nat} {x1 : Int32} {x2 : Int32} {r : (Nat → Int32)} {R : (Nat → Int32)} (hf : f_X5_tell x1 x2 r = some R) : q_M l yX5_tell wsX5_tell rmX5_tell (dC, dI) (q_T cI cJ cZ) [.ref aR, .int x1, .int x2] [(aR, .inr (5, [.int (r 0), .int (r 1), .int (r 2), .int (r 3), .int (r 4), .int (r 5), .int (r 6)]))] (qV (dC, dI) (q_T cI cJ cZ) [(aR, .inr (5, [.int (R 0), .int (R 1), .int (R 2), .int (R 3), .int (R 4), .int (R 5), .int (R 6)]))]) := by
  refine q_body (cc := cX5_tell) (maxL := 3) (ret := none) (by decide) rfl (Nat.le_of_ble_eq_true rfl) ?_
  intro p e s m args below meth c A C0 ls hP hD hS hl
  have hl : lv_has ls 3 [(0, .ref aR), (1, .int x1), (2, .int x2)] := hl
  exact B_X5_tell_0 C0 hf s.heap [] ls hP hD hS hl
/-! ## RungPlay$Rules.tenthsOfA -/
abbrev rmX5_tenthsOfA : Room := { frames := 0, cells := 0, slots := 0, locals := 0 }
theorem m_X5_tenthsOfA_f15 : Cond.fieldLink RX5 15 RX5 "tenthsOnServeOfB" "I" ∈ wsX5_tenthsOfA := by decide +kernel
theorem in_X5_tenthsOfA_X5 : ∀ w ∈ wsX50, w ∈ wsX5_tenthsOfA := by decide +kernel
theorem m_X5_tenthsOfA_f9 : Cond.fieldLink RX5 9 RX5 "tenthsOnServeOfA" "I" ∈ wsX5_tenthsOfA := by decide +kernel
noncomputable def f_X5_tenthsOfA (x1 : Int32) (r : (Nat → Int32)) : Option (Int32) :=
  (if x1 = 0 then (some (r 0)) else (some (r 1)))
set_option maxHeartbeats 4000000 in
set_option maxRecDepth 100000 in
theorem B_X5_tenthsOfA_0 {p : Program} {l : Launch} {e : Env} {s : State} {m : MethodId} {args : Array Value} {below : List Frame} {meth : Method} {c : Code} {A : Nat → Prop} {dC : Nat → ClassId} {dI : Nat → Nat → Nat} {cI cJ cZ : ClassId} {aR : Nat} (C0 : q_C p s m args meth c (dC, dI) (q_T cI cJ cZ) A RX5 wsX5_tenthsOfA cX5_tenthsOfA 2 (some .int)) {x1 : Int32} {r : (Nat → Int32)} {R : Int32} (hf : f_X5_tenthsOfA x1 r = some R) : ∀ (H : Heap) (locs : List Loc) (ls : Array Slot), va_P (dC, dI) vwCl [(aR, .inr (5, [.int (r 0), .int (r 1), .int (r 2), .int (r 3), .int (r 4), .int (r 5), .int (r 6)]))] H → va_D A [(aR, .inr (5, [.int (r 0), .int (r 1), .int (r 2), .int (r 3), .int (r 4), .int (r 5), .int (r 6)]))] → va_S A s.heap H locs → lv_has ls 2 [(0, .ref aR), (1, .int x1)] → W p l e rmX5_tenthsOfA s m args below meth c H locs 0 0 (MQ below (qI (dC, dI) (q_T cI cJ cZ) [(aR, .inr (5, [.int (r 0), .int (r 1), .int (r 2), .int (r 3), .int (r 4), .int (r 5), .int (r 6)]))] R A) args s 0 0 A) (F0 m 0 ls []) := by
  obtain ⟨hx, hb, hml, hown, hts, hrt, hlk, hK, hX, hA⟩ := id C0
  intro H locs ls hP hD hS hl
  unfold f_X5_tenthsOfA at hf
  refine lv_iload_n hx hb dX5_tenthsOfA_0 rfl (lv_at hl 1 rfl) ?_
  refine lv_if_ne (tgt := 11) hx hb dX5_tenthsOfA_1 (by decide) (fun hc1 => ?_) (fun hc1 => ?_)
  · have hf := q_nif hf hc1
    refine lv_aload_n hx hb dX5_tenthsOfA_11 rfl (lv_at hl 0 rfl) ?_
    refine q_get (TT := TX5) C0 in_X5_tenthsOfA_X5 1 m_X5_tenthsOfA_f15 hP 0 rfl rfl (by decide) rfl rfl dX5_tenthsOfA_12 ?_
    obtain rfl := Option.some.inj hf
    exact q_retI C0 hP hD hS dX5_tenthsOfA_15
  · have hf := q_if hf hc1
    refine lv_aload_n hx hb dX5_tenthsOfA_4 rfl (lv_at hl 0 rfl) ?_
    refine q_get (TT := TX5) C0 in_X5_tenthsOfA_X5 0 m_X5_tenthsOfA_f9 hP 0 rfl rfl (by decide) rfl rfl dX5_tenthsOfA_5 ?_
    refine lv_goto (tgt := 15) hx hb dX5_tenthsOfA_8 (by decide) ?_
    obtain rfl := Option.some.inj hf
    exact q_retI C0 hP hD hS dX5_tenthsOfA_15
set_option maxHeartbeats 4000000 in
set_option maxRecDepth 100000 in
theorem c_X5_tenthsOfA {l : Launch} {dC : Nat → ClassId} {dI : Nat → Nat → Nat} {cI cJ cZ : ClassId} {aR : Nat} {x1 : Int32} {r : (Nat → Int32)} {R : Int32} (hf : f_X5_tenthsOfA x1 r = some R) : q_M l yX5_tenthsOfA wsX5_tenthsOfA rmX5_tenthsOfA (dC, dI) (q_T cI cJ cZ) [.ref aR, .int x1] [(aR, .inr (5, [.int (r 0), .int (r 1), .int (r 2), .int (r 3), .int (r 4), .int (r 5), .int (r 6)]))] (qI (dC, dI) (q_T cI cJ cZ) [(aR, .inr (5, [.int (r 0), .int (r 1), .int (r 2), .int (r 3), .int (r 4), .int (r 5), .int (r 6)]))] R) := by
  refine q_body (cc := cX5_tenthsOfA) (maxL := 2) (ret := (some .int)) (by decide) rfl (Nat.le_of_ble_eq_true rfl) ?_
  intro p e s m args below meth c A C0 ls hP hD hS hl
  have hl : lv_has ls 2 [(0, .ref aR), (1, .int x1)] := hl
  exact B_X5_tenthsOfA_0 C0 hf s.heap [] ls hP hD hS hl
/-! ## RungPlay$Rules.headStartOfA -/
abbrev rmX5_headStartOfA : Room := { frames := 0, cells := 0, slots := 0, locals := 0 }
theorem m_X5_headStartOfA_f27 : Cond.fieldLink RX5 27 RX5 "headStart" "I" ∈ wsX5_headStartOfA := by decide +kernel
theorem in_X5_headStartOfA_X5 : ∀ w ∈ wsX50, w ∈ wsX5_headStartOfA := by decide +kernel
noncomputable def f_X5_headStartOfA (x1 : Int32) (r : (Nat → Int32)) : Option (Int32) :=
  (if x1 = 0 then (some (r 5)) else (some 0))
set_option maxHeartbeats 4000000 in
set_option maxRecDepth 100000 in
theorem B_X5_headStartOfA_0 {p : Program} {l : Launch} {e : Env} {s : State} {m : MethodId} {args : Array Value} {below : List Frame} {meth : Method} {c : Code} {A : Nat → Prop} {dC : Nat → ClassId} {dI : Nat → Nat → Nat} {cI cJ cZ : ClassId} {aR : Nat} (C0 : q_C p s m args meth c (dC, dI) (q_T cI cJ cZ) A RX5 wsX5_headStartOfA cX5_headStartOfA 2 (some .int)) {x1 : Int32} {r : (Nat → Int32)} {R : Int32} (hf : f_X5_headStartOfA x1 r = some R) : ∀ (H : Heap) (locs : List Loc) (ls : Array Slot), va_P (dC, dI) vwCl [(aR, .inr (5, [.int (r 0), .int (r 1), .int (r 2), .int (r 3), .int (r 4), .int (r 5), .int (r 6)]))] H → va_D A [(aR, .inr (5, [.int (r 0), .int (r 1), .int (r 2), .int (r 3), .int (r 4), .int (r 5), .int (r 6)]))] → va_S A s.heap H locs → lv_has ls 2 [(0, .ref aR), (1, .int x1)] → W p l e rmX5_headStartOfA s m args below meth c H locs 0 0 (MQ below (qI (dC, dI) (q_T cI cJ cZ) [(aR, .inr (5, [.int (r 0), .int (r 1), .int (r 2), .int (r 3), .int (r 4), .int (r 5), .int (r 6)]))] R A) args s 0 0 A) (F0 m 0 ls []) := by
  obtain ⟨hx, hb, hml, hown, hts, hrt, hlk, hK, hX, hA⟩ := id C0
  intro H locs ls hP hD hS hl
  unfold f_X5_headStartOfA at hf
  refine lv_iload_n hx hb dX5_headStartOfA_0 rfl (lv_at hl 1 rfl) ?_
  refine lv_if_ne (tgt := 11) hx hb dX5_headStartOfA_1 (by decide) (fun hc1 => ?_) (fun hc1 => ?_)
  · have hf := q_nif hf hc1
    refine lv_iconst (v := 0) hx hb dX5_headStartOfA_11 (by decide) ?_
    obtain rfl := Option.some.inj hf
    exact q_retI C0 hP hD hS dX5_headStartOfA_12
  · have hf := q_if hf hc1
    refine lv_aload_n hx hb dX5_headStartOfA_4 rfl (lv_at hl 0 rfl) ?_
    refine q_get (TT := TX5) C0 in_X5_headStartOfA_X5 5 m_X5_headStartOfA_f27 hP 0 rfl rfl (by decide) rfl rfl dX5_headStartOfA_5 ?_
    refine lv_goto (tgt := 12) hx hb dX5_headStartOfA_8 (by decide) ?_
    obtain rfl := Option.some.inj hf
    exact q_retI C0 hP hD hS dX5_headStartOfA_12
set_option maxHeartbeats 4000000 in
set_option maxRecDepth 100000 in
theorem c_X5_headStartOfA {l : Launch} {dC : Nat → ClassId} {dI : Nat → Nat → Nat} {cI cJ cZ : ClassId} {aR : Nat} {x1 : Int32} {r : (Nat → Int32)} {R : Int32} (hf : f_X5_headStartOfA x1 r = some R) : q_M l yX5_headStartOfA wsX5_headStartOfA rmX5_headStartOfA (dC, dI) (q_T cI cJ cZ) [.ref aR, .int x1] [(aR, .inr (5, [.int (r 0), .int (r 1), .int (r 2), .int (r 3), .int (r 4), .int (r 5), .int (r 6)]))] (qI (dC, dI) (q_T cI cJ cZ) [(aR, .inr (5, [.int (r 0), .int (r 1), .int (r 2), .int (r 3), .int (r 4), .int (r 5), .int (r 6)]))] R) := by
  refine q_body (cc := cX5_headStartOfA) (maxL := 2) (ret := (some .int)) (by decide) rfl (Nat.le_of_ble_eq_true rfl) ?_
  intro p e s m args below meth c A C0 ls hP hD hS hl
  have hl : lv_has ls 2 [(0, .ref aR), (1, .int x1)] := hl
  exact B_X5_headStartOfA_0 C0 hf s.heap [] ls hP hD hS hl
/-! ## RungPlay$Rules.gameWinner -/
abbrev rmX5_gameWinner : Room := { frames := 1, cells := 0, slots := 0, locals := 21 }
theorem m_X5_gameWinner_f18 : Cond.fieldLink RX5 18 RX5 "toPoints" "I" ∈ wsX5_gameWinner := by decide +kernel
theorem in_X5_gameWinner_X5 : ∀ w ∈ wsX50, w ∈ wsX5_gameWinner := by decide +kernel
theorem m_X5_gameWinner_l37 : Cond.methodLink RX5 37 Lib.Math.max.name ∈ wsX5_gameWinner := by decide +kernel
theorem m_X5_gameWinner_stmax : Cond.static Lib.Math.max.name ∈ wsX5_gameWinner := by decide +kernel
theorem m_X5_gameWinner_imath : Cond.initialized "java/lang/Math" ∈ wsX5_gameWinner := by decide +kernel
theorem m_X5_gameWinner_cmax : Cond.code Lib.Math.max.name Lib.Math.max.code 2 (some .int) ∈ wsX5_gameWinner := by decide +kernel
theorem m_X5_gameWinner_l43 : Cond.methodLink RX5 43 Lib.Math.min.name ∈ wsX5_gameWinner := by decide +kernel
theorem m_X5_gameWinner_stmin : Cond.static Lib.Math.min.name ∈ wsX5_gameWinner := by decide +kernel
theorem m_X5_gameWinner_cmin : Cond.code Lib.Math.min.name Lib.Math.min.code 2 (some .int) ∈ wsX5_gameWinner := by decide +kernel
noncomputable def b_X5_gameWinner_113 (x2 : Int32) (x3 : Int32) (x6 : Int32) (r : (Nat → Int32)) : Option (Int32) :=
  (if x6 = 0 then (some 0) else (q_b1 (f_X5_leader x2 x3) (fun r2 => (some r2))))
noncomputable def b_X5_gameWinner_111 (x2 : Int32) (x3 : Int32) (s0 : Int32) (r : (Nat → Int32)) : Option (Int32) :=
  (b_X5_gameWinner_113 x2 x3 s0 r)
noncomputable def b_X5_gameWinner_110 (x2 : Int32) (x3 : Int32) (r : (Nat → Int32)) : Option (Int32) :=
  (b_X5_gameWinner_111 x2 x3 0 r)
noncomputable def b_X5_gameWinner_106 (x2 : Int32) (x3 : Int32) (r : (Nat → Int32)) : Option (Int32) :=
  (b_X5_gameWinner_111 x2 x3 1 r)
noncomputable def b_X5_gameWinner_72 (x1 : Int32) (x2 : Int32) (x3 : Int32) (x4 : Int32) (x5 : Int32) (x6 : Int32) (r : (Nat → Int32)) : Option (Int32) :=
  (if x1 < 2 then (b_X5_gameWinner_113 x2 x3 x6 r) else (if (r 2) < 3 then (b_X5_gameWinner_113 x2 x3 x6 r) else (if x6 = 0 then (if x4 < ((r 2) - 1) then (b_X5_gameWinner_110 x2 x3 r) else (if x5 = 0 then (b_X5_gameWinner_106 x2 x3 r) else (b_X5_gameWinner_110 x2 x3 r))) else (b_X5_gameWinner_106 x2 x3 r))))
noncomputable def b_X5_gameWinner_70 (x1 : Int32) (x2 : Int32) (x3 : Int32) (x4 : Int32) (x5 : Int32) (s0 : Int32) (r : (Nat → Int32)) : Option (Int32) :=
  (b_X5_gameWinner_72 x1 x2 x3 x4 x5 s0 r)
noncomputable def b_X5_gameWinner_69 (x1 : Int32) (x2 : Int32) (x3 : Int32) (x4 : Int32) (x5 : Int32) (r : (Nat → Int32)) : Option (Int32) :=
  (b_X5_gameWinner_70 x1 x2 x3 x4 x5 0 r)
noncomputable def b_X5_gameWinner_65 (x1 : Int32) (x2 : Int32) (x3 : Int32) (x4 : Int32) (x5 : Int32) (r : (Nat → Int32)) : Option (Int32) :=
  (b_X5_gameWinner_70 x1 x2 x3 x4 x5 1 r)
noncomputable def b_X5_gameWinner_37 (x1 : Int32) (x2 : Int32) (x3 : Int32) (x4 : Int32) (x5 : Int32) (s0 : Int32) (r : (Nat → Int32)) : Option (Int32) :=
  (if x1 < 1 then (b_X5_gameWinner_72 x1 x2 x3 x4 x5 s0 r) else (if s0 = 0 then (if x4 < (r 2) then (b_X5_gameWinner_69 x1 x2 x3 x4 x5 r) else (if x4 ≤ x5 then (b_X5_gameWinner_69 x1 x2 x3 x4 x5 r) else (b_X5_gameWinner_65 x1 x2 x3 x4 x5 r))) else (b_X5_gameWinner_65 x1 x2 x3 x4 x5 r)))
noncomputable def b_X5_gameWinner_36 (x1 : Int32) (x2 : Int32) (x3 : Int32) (x4 : Int32) (x5 : Int32) (r : (Nat → Int32)) : Option (Int32) :=
  (b_X5_gameWinner_37 x1 x2 x3 x4 x5 0 r)
noncomputable def f_X5_gameWinner (x1 : Int32) (x2 : Int32) (x3 : Int32) (r : (Nat → Int32)) : Option (Int32) :=
  (if (if x2 < x3 then x3 else x2) < (r 2) then (b_X5_gameWinner_36 x1 x2 x3 (if x2 < x3 then x3 else x2) (if x3 < x2 then x3 else x2) r) else (if ((if x2 < x3 then x3 else x2) - (if x3 < x2 then x3 else x2)) < 2 then (b_X5_gameWinner_36 x1 x2 x3 (if x2 < x3 then x3 else x2) (if x3 < x2 then x3 else x2) r) else (b_X5_gameWinner_37 x1 x2 x3 (if x2 < x3 then x3 else x2) (if x3 < x2 then x3 else x2) 1 r)))
set_option maxHeartbeats 4000000 in
set_option maxRecDepth 100000 in
theorem B_X5_gameWinner_113 {p : Program} {l : Launch} {e : Env} {s : State} {m : MethodId} {args : Array Value} {below : List Frame} {meth : Method} {c : Code} {A : Nat → Prop} {dC : Nat → ClassId} {dI : Nat → Nat → Nat} {cI cJ cZ : ClassId} {aR : Nat} (C0 : q_C p s m args meth c (dC, dI) (q_T cI cJ cZ) A RX5 wsX5_gameWinner cX5_gameWinner 7 (some .int)) {x2 : Int32} {x3 : Int32} {x6 : Int32} {r : (Nat → Int32)} {R : Int32} (hf : b_X5_gameWinner_113 x2 x3 x6 r = some R) : ∀ (H : Heap) (locs : List Loc) (ls : Array Slot), va_P (dC, dI) vwCl [(aR, .inr (5, [.int (r 0), .int (r 1), .int (r 2), .int (r 3), .int (r 4), .int (r 5), .int (r 6)]))] H → va_D A [(aR, .inr (5, [.int (r 0), .int (r 1), .int (r 2), .int (r 3), .int (r 4), .int (r 5), .int (r 6)]))] → va_S A s.heap H locs → lv_has ls 7 [(2, .int x2), (3, .int x3), (6, .int x6)] → W p l e rmX5_gameWinner s m args below meth c H locs 0 0 (MQ below (qI (dC, dI) (q_T cI cJ cZ) [(aR, .inr (5, [.int (r 0), .int (r 1), .int (r 2), .int (r 3), .int (r 4), .int (r 5), .int (r 6)]))] R A) args s 0 0 A) (F0 m 113 ls []) := by
  obtain ⟨hx, hb, hml, hown, hts, hrt, hlk, hK, hX, hA⟩ := id C0
  intro H locs ls hP hD hS hl
  unfold b_X5_gameWinner_113 at hf
  refine lv_iload hx hb dX5_gameWinner_113 (lv_at hl 2 rfl) ?_
  refine lv_if_eq (tgt := 126) hx hb dX5_gameWinner_115 (by decide) (fun hc1 => ?_) (fun hc1 => ?_)
  · have hf := q_if hf hc1
    refine lv_iconst (v := 0) hx hb dX5_gameWinner_126 (by decide) ?_
    obtain rfl := Option.some.inj hf
    exact q_retI C0 hP hD hS dX5_gameWinner_127
  · have hf := q_nif hf hc1
    refine lv_iload_n hx hb dX5_gameWinner_118 rfl (lv_at hl 0 rfl) ?_
    refine lv_iload_n hx hb dX5_gameWinner_119 rfl (lv_at hl 1 rfl) ?_
    obtain ⟨r2, hg3, hf⟩ := q_e1 hf
    refine q_endI (wc := []) (wr := [(aR, .inr (5, [.int (r 0), .int (r 1), .int (r 2), .int (r 3), .int (r 4), .int (r 5), .int (r 6)]))]) (w1 := []) (rv := r2) C0 hP hD hS [] [0] rfl rfl (by decide) (by decide) (q_runS C0 (c_X5_leader (l := l) hg3) (va_cwS 2 hts gX5_gameWinner_X5_leader rfl rfl rfl (by decide +kernel) ⟨Nat.le_of_ble_eq_true rfl, Nat.le_of_ble_eq_true rfl⟩) hP hD hS [] rfl (by decide) rfl rfl hl.1 (Nat.le_of_ble_eq_true rfl) dX5_gameWinner_120) (fun H locs hP hD hS => ?_)
    have hP : va_P (dC, dI) vwCl [(aR, .inr (5, [.int (r 0), .int (r 1), .int (r 2), .int (r 3), .int (r 4), .int (r 5), .int (r 6)]))] H := hP
    have hD : va_D A [(aR, .inr (5, [.int (r 0), .int (r 1), .int (r 2), .int (r 3), .int (r 4), .int (r 5), .int (r 6)]))] := hD
    refine lv_goto (tgt := 127) hx hb dX5_gameWinner_123 (by decide) ?_
    obtain rfl := Option.some.inj hf
    exact q_retI C0 hP hD hS dX5_gameWinner_127
set_option maxHeartbeats 4000000 in
set_option maxRecDepth 100000 in
theorem B_X5_gameWinner_111 {p : Program} {l : Launch} {e : Env} {s : State} {m : MethodId} {args : Array Value} {below : List Frame} {meth : Method} {c : Code} {A : Nat → Prop} {dC : Nat → ClassId} {dI : Nat → Nat → Nat} {cI cJ cZ : ClassId} {aR : Nat} (C0 : q_C p s m args meth c (dC, dI) (q_T cI cJ cZ) A RX5 wsX5_gameWinner cX5_gameWinner 7 (some .int)) {x2 : Int32} {x3 : Int32} {s0 : Int32} {r : (Nat → Int32)} {R : Int32} (hf : b_X5_gameWinner_111 x2 x3 s0 r = some R) : ∀ (H : Heap) (locs : List Loc) (ls : Array Slot), va_P (dC, dI) vwCl [(aR, .inr (5, [.int (r 0), .int (r 1), .int (r 2), .int (r 3), .int (r 4), .int (r 5), .int (r 6)]))] H → va_D A [(aR, .inr (5, [.int (r 0), .int (r 1), .int (r 2), .int (r 3), .int (r 4), .int (r 5), .int (r 6)]))] → va_S A s.heap H locs → lv_has ls 7 [(2, .int x2), (3, .int x3)] → W p l e rmX5_gameWinner s m args below meth c H locs 0 0 (MQ below (qI (dC, dI) (q_T cI cJ cZ) [(aR, .inr (5, [.int (r 0), .int (r 1), .int (r 2), .int (r 3), .int (r 4), .int (r 5), .int (r 6)]))] R A) args s 0 0 A) (F0 m 111 ls [.int s0]) := by
  obtain ⟨hx, hb, hml, hown, hts, hrt, hlk, hK, hX, hA⟩ := id C0
  intro H locs ls hP hD hS hl
  unfold b_X5_gameWinner_111 at hf
  refine lv_istore (lv' := [(6, .int s0), (2, .int x2), (3, .int x3)]) hx hb dX5_gameWinner_111 hl (by decide) rfl (fun ls hl => ?_)
  exact B_X5_gameWinner_113 C0 hf H locs ls hP hD hS (lv_sub hl [1, 2, 0] rfl)
set_option maxHeartbeats 4000000 in
set_option maxRecDepth 100000 in
theorem B_X5_gameWinner_110 {p : Program} {l : Launch} {e : Env} {s : State} {m : MethodId} {args : Array Value} {below : List Frame} {meth : Method} {c : Code} {A : Nat → Prop} {dC : Nat → ClassId} {dI : Nat → Nat → Nat} {cI cJ cZ : ClassId} {aR : Nat} (C0 : q_C p s m args meth c (dC, dI) (q_T cI cJ cZ) A RX5 wsX5_gameWinner cX5_gameWinner 7 (some .int)) {x2 : Int32} {x3 : Int32} {r : (Nat → Int32)} {R : Int32} (hf : b_X5_gameWinner_110 x2 x3 r = some R) : ∀ (H : Heap) (locs : List Loc) (ls : Array Slot), va_P (dC, dI) vwCl [(aR, .inr (5, [.int (r 0), .int (r 1), .int (r 2), .int (r 3), .int (r 4), .int (r 5), .int (r 6)]))] H → va_D A [(aR, .inr (5, [.int (r 0), .int (r 1), .int (r 2), .int (r 3), .int (r 4), .int (r 5), .int (r 6)]))] → va_S A s.heap H locs → lv_has ls 7 [(2, .int x2), (3, .int x3)] → W p l e rmX5_gameWinner s m args below meth c H locs 0 0 (MQ below (qI (dC, dI) (q_T cI cJ cZ) [(aR, .inr (5, [.int (r 0), .int (r 1), .int (r 2), .int (r 3), .int (r 4), .int (r 5), .int (r 6)]))] R A) args s 0 0 A) (F0 m 110 ls []) := by
  obtain ⟨hx, hb, hml, hown, hts, hrt, hlk, hK, hX, hA⟩ := id C0
  intro H locs ls hP hD hS hl
  unfold b_X5_gameWinner_110 at hf
  refine lv_iconst (v := 0) hx hb dX5_gameWinner_110 (by decide) ?_
  exact B_X5_gameWinner_111 C0 hf H locs ls hP hD hS hl
set_option maxHeartbeats 4000000 in
set_option maxRecDepth 100000 in
theorem B_X5_gameWinner_106 {p : Program} {l : Launch} {e : Env} {s : State} {m : MethodId} {args : Array Value} {below : List Frame} {meth : Method} {c : Code} {A : Nat → Prop} {dC : Nat → ClassId} {dI : Nat → Nat → Nat} {cI cJ cZ : ClassId} {aR : Nat} (C0 : q_C p s m args meth c (dC, dI) (q_T cI cJ cZ) A RX5 wsX5_gameWinner cX5_gameWinner 7 (some .int)) {x2 : Int32} {x3 : Int32} {r : (Nat → Int32)} {R : Int32} (hf : b_X5_gameWinner_106 x2 x3 r = some R) : ∀ (H : Heap) (locs : List Loc) (ls : Array Slot), va_P (dC, dI) vwCl [(aR, .inr (5, [.int (r 0), .int (r 1), .int (r 2), .int (r 3), .int (r 4), .int (r 5), .int (r 6)]))] H → va_D A [(aR, .inr (5, [.int (r 0), .int (r 1), .int (r 2), .int (r 3), .int (r 4), .int (r 5), .int (r 6)]))] → va_S A s.heap H locs → lv_has ls 7 [(2, .int x2), (3, .int x3)] → W p l e rmX5_gameWinner s m args below meth c H locs 0 0 (MQ below (qI (dC, dI) (q_T cI cJ cZ) [(aR, .inr (5, [.int (r 0), .int (r 1), .int (r 2), .int (r 3), .int (r 4), .int (r 5), .int (r 6)]))] R A) args s 0 0 A) (F0 m 106 ls []) := by
  obtain ⟨hx, hb, hml, hown, hts, hrt, hlk, hK, hX, hA⟩ := id C0
  intro H locs ls hP hD hS hl
  unfold b_X5_gameWinner_106 at hf
  refine lv_iconst (v := 1) hx hb dX5_gameWinner_106 (by decide) ?_
  refine lv_goto (tgt := 111) hx hb dX5_gameWinner_107 (by decide) ?_
  exact B_X5_gameWinner_111 C0 hf H locs ls hP hD hS hl
set_option maxHeartbeats 4000000 in
set_option maxRecDepth 100000 in
theorem B_X5_gameWinner_72 {p : Program} {l : Launch} {e : Env} {s : State} {m : MethodId} {args : Array Value} {below : List Frame} {meth : Method} {c : Code} {A : Nat → Prop} {dC : Nat → ClassId} {dI : Nat → Nat → Nat} {cI cJ cZ : ClassId} {aR : Nat} (C0 : q_C p s m args meth c (dC, dI) (q_T cI cJ cZ) A RX5 wsX5_gameWinner cX5_gameWinner 7 (some .int)) {x1 : Int32} {x2 : Int32} {x3 : Int32} {x4 : Int32} {x5 : Int32} {x6 : Int32} {r : (Nat → Int32)} {R : Int32} (hf : b_X5_gameWinner_72 x1 x2 x3 x4 x5 x6 r = some R) : ∀ (H : Heap) (locs : List Loc) (ls : Array Slot), va_P (dC, dI) vwCl [(aR, .inr (5, [.int (r 0), .int (r 1), .int (r 2), .int (r 3), .int (r 4), .int (r 5), .int (r 6)]))] H → va_D A [(aR, .inr (5, [.int (r 0), .int (r 1), .int (r 2), .int (r 3), .int (r 4), .int (r 5), .int (r 6)]))] → va_S A s.heap H locs → lv_has ls 7 [(0, .ref aR), (1, .int x1), (2, .int x2), (3, .int x3), (4, .int x4), (5, .int x5), (6, .int x6)] → W p l e rmX5_gameWinner s m args below meth c H locs 0 0 (MQ below (qI (dC, dI) (q_T cI cJ cZ) [(aR, .inr (5, [.int (r 0), .int (r 1), .int (r 2), .int (r 3), .int (r 4), .int (r 5), .int (r 6)]))] R A) args s 0 0 A) (F0 m 72 ls []) := by
  obtain ⟨hx, hb, hml, hown, hts, hrt, hlk, hK, hX, hA⟩ := id C0
  intro H locs ls hP hD hS hl
  unfold b_X5_gameWinner_72 at hf
  refine lv_iload_n hx hb dX5_gameWinner_72 rfl (lv_at hl 1 rfl) ?_
  refine lv_iconst (v := 2) hx hb dX5_gameWinner_73 (by decide) ?_
  refine lv_icmp_lt (tgt := 113) hx hb dX5_gameWinner_74 (by decide) (fun hc4 => ?_) (fun hc4 => ?_)
  · have hf := q_if hf hc4
    exact B_X5_gameWinner_113 C0 hf H locs ls hP hD hS (lv_sub hl [2, 3, 6] rfl)
  · have hf := q_nif hf hc4
    refine lv_aload_n hx hb dX5_gameWinner_77 rfl (lv_at hl 0 rfl) ?_
    refine q_get (TT := TX5) C0 in_X5_gameWinner_X5 2 m_X5_gameWinner_f18 hP 0 rfl rfl (by decide) rfl rfl dX5_gameWinner_78 ?_
    refine lv_iconst (v := 3) hx hb dX5_gameWinner_81 (by decide) ?_
    refine lv_icmp_lt (tgt := 113) hx hb dX5_gameWinner_82 (by decide) (fun hc5 => ?_) (fun hc5 => ?_)
    · have hf := q_if hf hc5
      exact B_X5_gameWinner_113 C0 hf H locs ls hP hD hS (lv_sub hl [2, 3, 6] rfl)
    · have hf := q_nif hf hc5
      refine lv_iload hx hb dX5_gameWinner_85 (lv_at hl 6 rfl) ?_
      refine lv_if_ne (tgt := 106) hx hb dX5_gameWinner_87 (by decide) (fun hc6 => ?_) (fun hc6 => ?_)
      · have hf := q_nif hf hc6
        exact B_X5_gameWinner_106 C0 hf H locs ls hP hD hS (lv_sub hl [2, 3] rfl)
      · have hf := q_if hf hc6
        refine lv_iload hx hb dX5_gameWinner_90 (lv_at hl 4 rfl) ?_
        refine lv_aload_n hx hb dX5_gameWinner_92 rfl (lv_at hl 0 rfl) ?_
        refine q_get (TT := TX5) C0 in_X5_gameWinner_X5 2 m_X5_gameWinner_f18 hP 0 rfl rfl (by decide) rfl rfl dX5_gameWinner_93 ?_
        refine lv_iconst (v := 1) hx hb dX5_gameWinner_96 (by decide) ?_
        refine lv_isub hx hb dX5_gameWinner_97 ?_
        refine lv_icmp_lt (tgt := 110) hx hb dX5_gameWinner_98 (by decide) (fun hc7 => ?_) (fun hc7 => ?_)
        · have hf := q_if hf hc7
          exact B_X5_gameWinner_110 C0 hf H locs ls hP hD hS (lv_sub hl [2, 3] rfl)
        · have hf := q_nif hf hc7
          refine lv_iload hx hb dX5_gameWinner_101 (lv_at hl 5 rfl) ?_
          refine lv_if_ne (tgt := 110) hx hb dX5_gameWinner_103 (by decide) (fun hc8 => ?_) (fun hc8 => ?_)
          · have hf := q_nif hf hc8
            exact B_X5_gameWinner_110 C0 hf H locs ls hP hD hS (lv_sub hl [2, 3] rfl)
          · have hf := q_if hf hc8
            exact B_X5_gameWinner_106 C0 hf H locs ls hP hD hS (lv_sub hl [2, 3] rfl)
set_option maxHeartbeats 4000000 in
set_option maxRecDepth 100000 in
theorem B_X5_gameWinner_70 {p : Program} {l : Launch} {e : Env} {s : State} {m : MethodId} {args : Array Value} {below : List Frame} {meth : Method} {c : Code} {A : Nat → Prop} {dC : Nat → ClassId} {dI : Nat → Nat → Nat} {cI cJ cZ : ClassId} {aR : Nat} (C0 : q_C p s m args meth c (dC, dI) (q_T cI cJ cZ) A RX5 wsX5_gameWinner cX5_gameWinner 7 (some .int)) {x1 : Int32} {x2 : Int32} {x3 : Int32} {x4 : Int32} {x5 : Int32} {s0 : Int32} {r : (Nat → Int32)} {R : Int32} (hf : b_X5_gameWinner_70 x1 x2 x3 x4 x5 s0 r = some R) : ∀ (H : Heap) (locs : List Loc) (ls : Array Slot), va_P (dC, dI) vwCl [(aR, .inr (5, [.int (r 0), .int (r 1), .int (r 2), .int (r 3), .int (r 4), .int (r 5), .int (r 6)]))] H → va_D A [(aR, .inr (5, [.int (r 0), .int (r 1), .int (r 2), .int (r 3), .int (r 4), .int (r 5), .int (r 6)]))] → va_S A s.heap H locs → lv_has ls 7 [(0, .ref aR), (1, .int x1), (2, .int x2), (3, .int x3), (4, .int x4), (5, .int x5)] → W p l e rmX5_gameWinner s m args below meth c H locs 0 0 (MQ below (qI (dC, dI) (q_T cI cJ cZ) [(aR, .inr (5, [.int (r 0), .int (r 1), .int (r 2), .int (r 3), .int (r 4), .int (r 5), .int (r 6)]))] R A) args s 0 0 A) (F0 m 70 ls [.int s0]) := by
  obtain ⟨hx, hb, hml, hown, hts, hrt, hlk, hK, hX, hA⟩ := id C0
  intro H locs ls hP hD hS hl
  unfold b_X5_gameWinner_70 at hf
  refine lv_istore (lv' := [(6, .int s0), (0, .ref aR), (1, .int x1), (2, .int x2), (3, .int x3), (4, .int x4), (5, .int x5)]) hx hb dX5_gameWinner_70 hl (by decide) rfl (fun ls hl => ?_)
  exact B_X5_gameWinner_72 C0 hf H locs ls hP hD hS (lv_sub hl [1, 2, 3, 4, 5, 6, 0] rfl)
set_option maxHeartbeats 4000000 in
set_option maxRecDepth 100000 in
theorem B_X5_gameWinner_69 {p : Program} {l : Launch} {e : Env} {s : State} {m : MethodId} {args : Array Value} {below : List Frame} {meth : Method} {c : Code} {A : Nat → Prop} {dC : Nat → ClassId} {dI : Nat → Nat → Nat} {cI cJ cZ : ClassId} {aR : Nat} (C0 : q_C p s m args meth c (dC, dI) (q_T cI cJ cZ) A RX5 wsX5_gameWinner cX5_gameWinner 7 (some .int)) {x1 : Int32} {x2 : Int32} {x3 : Int32} {x4 : Int32} {x5 : Int32} {r : (Nat → Int32)} {R : Int32} (hf : b_X5_gameWinner_69 x1 x2 x3 x4 x5 r = some R) : ∀ (H : Heap) (locs : List Loc) (ls : Array Slot), va_P (dC, dI) vwCl [(aR, .inr (5, [.int (r 0), .int (r 1), .int (r 2), .int (r 3), .int (r 4), .int (r 5), .int (r 6)]))] H → va_D A [(aR, .inr (5, [.int (r 0), .int (r 1), .int (r 2), .int (r 3), .int (r 4), .int (r 5), .int (r 6)]))] → va_S A s.heap H locs → lv_has ls 7 [(0, .ref aR), (1, .int x1), (2, .int x2), (3, .int x3), (4, .int x4), (5, .int x5)] → W p l e rmX5_gameWinner s m args below meth c H locs 0 0 (MQ below (qI (dC, dI) (q_T cI cJ cZ) [(aR, .inr (5, [.int (r 0), .int (r 1), .int (r 2), .int (r 3), .int (r 4), .int (r 5), .int (r 6)]))] R A) args s 0 0 A) (F0 m 69 ls []) := by
  obtain ⟨hx, hb, hml, hown, hts, hrt, hlk, hK, hX, hA⟩ := id C0
  intro H locs ls hP hD hS hl
  unfold b_X5_gameWinner_69 at hf
  refine lv_iconst (v := 0) hx hb dX5_gameWinner_69 (by decide) ?_
  exact B_X5_gameWinner_70 C0 hf H locs ls hP hD hS hl
set_option maxHeartbeats 4000000 in
set_option maxRecDepth 100000 in
theorem B_X5_gameWinner_65 {p : Program} {l : Launch} {e : Env} {s : State} {m : MethodId} {args : Array Value} {below : List Frame} {meth : Method} {c : Code} {A : Nat → Prop} {dC : Nat → ClassId} {dI : Nat → Nat → Nat} {cI cJ cZ : ClassId} {aR : Nat} (C0 : q_C p s m args meth c (dC, dI) (q_T cI cJ cZ) A RX5 wsX5_gameWinner cX5_gameWinner 7 (some .int)) {x1 : Int32} {x2 : Int32} {x3 : Int32} {x4 : Int32} {x5 : Int32} {r : (Nat → Int32)} {R : Int32} (hf : b_X5_gameWinner_65 x1 x2 x3 x4 x5 r = some R) : ∀ (H : Heap) (locs : List Loc) (ls : Array Slot), va_P (dC, dI) vwCl [(aR, .inr (5, [.int (r 0), .int (r 1), .int (r 2), .int (r 3), .int (r 4), .int (r 5), .int (r 6)]))] H → va_D A [(aR, .inr (5, [.int (r 0), .int (r 1), .int (r 2), .int (r 3), .int (r 4), .int (r 5), .int (r 6)]))] → va_S A s.heap H locs → lv_has ls 7 [(0, .ref aR), (1, .int x1), (2, .int x2), (3, .int x3), (4, .int x4), (5, .int x5)] → W p l e rmX5_gameWinner s m args below meth c H locs 0 0 (MQ below (qI (dC, dI) (q_T cI cJ cZ) [(aR, .inr (5, [.int (r 0), .int (r 1), .int (r 2), .int (r 3), .int (r 4), .int (r 5), .int (r 6)]))] R A) args s 0 0 A) (F0 m 65 ls []) := by
  obtain ⟨hx, hb, hml, hown, hts, hrt, hlk, hK, hX, hA⟩ := id C0
  intro H locs ls hP hD hS hl
  unfold b_X5_gameWinner_65 at hf
  refine lv_iconst (v := 1) hx hb dX5_gameWinner_65 (by decide) ?_
  refine lv_goto (tgt := 70) hx hb dX5_gameWinner_66 (by decide) ?_
  exact B_X5_gameWinner_70 C0 hf H locs ls hP hD hS hl
set_option maxHeartbeats 4000000 in
set_option maxRecDepth 100000 in
theorem B_X5_gameWinner_37 {p : Program} {l : Launch} {e : Env} {s : State} {m : MethodId} {args : Array Value} {below : List Frame} {meth : Method} {c : Code} {A : Nat → Prop} {dC : Nat → ClassId} {dI : Nat → Nat → Nat} {cI cJ cZ : ClassId} {aR : Nat} (C0 : q_C p s m args meth c (dC, dI) (q_T cI cJ cZ) A RX5 wsX5_gameWinner cX5_gameWinner 7 (some .int)) {x1 : Int32} {x2 : Int32} {x3 : Int32} {x4 : Int32} {x5 : Int32} {s0 : Int32} {r : (Nat → Int32)} {R : Int32} (hf : b_X5_gameWinner_37 x1 x2 x3 x4 x5 s0 r = some R) : ∀ (H : Heap) (locs : List Loc) (ls : Array Slot), va_P (dC, dI) vwCl [(aR, .inr (5, [.int (r 0), .int (r 1), .int (r 2), .int (r 3), .int (r 4), .int (r 5), .int (r 6)]))] H → va_D A [(aR, .inr (5, [.int (r 0), .int (r 1), .int (r 2), .int (r 3), .int (r 4), .int (r 5), .int (r 6)]))] → va_S A s.heap H locs → lv_has ls 7 [(0, .ref aR), (1, .int x1), (2, .int x2), (3, .int x3), (4, .int x4), (5, .int x5)] → W p l e rmX5_gameWinner s m args below meth c H locs 0 0 (MQ below (qI (dC, dI) (q_T cI cJ cZ) [(aR, .inr (5, [.int (r 0), .int (r 1), .int (r 2), .int (r 3), .int (r 4), .int (r 5), .int (r 6)]))] R A) args s 0 0 A) (F0 m 37 ls [.int s0]) := by
  obtain ⟨hx, hb, hml, hown, hts, hrt, hlk, hK, hX, hA⟩ := id C0
  intro H locs ls hP hD hS hl
  unfold b_X5_gameWinner_37 at hf
  refine lv_istore (lv' := [(6, .int s0), (0, .ref aR), (1, .int x1), (2, .int x2), (3, .int x3), (4, .int x4), (5, .int x5)]) hx hb dX5_gameWinner_37 hl (by decide) rfl (fun ls hl => ?_)
  refine lv_iload_n hx hb dX5_gameWinner_39 rfl (lv_at hl 2 rfl) ?_
  refine lv_iconst (v := 1) hx hb dX5_gameWinner_40 (by decide) ?_
  refine lv_icmp_lt (tgt := 72) hx hb dX5_gameWinner_41 (by decide) (fun hc9 => ?_) (fun hc9 => ?_)
  · have hf := q_if hf hc9
    exact B_X5_gameWinner_72 C0 hf H locs ls hP hD hS (lv_sub hl [1, 2, 3, 4, 5, 6, 0] rfl)
  · have hf := q_nif hf hc9
    refine lv_iload hx hb dX5_gameWinner_44 (lv_at hl 0 rfl) ?_
    refine lv_if_ne (tgt := 65) hx hb dX5_gameWinner_46 (by decide) (fun hc10 => ?_) (fun hc10 => ?_)
    · have hf := q_nif hf hc10
      exact B_X5_gameWinner_65 C0 hf H locs ls hP hD hS (lv_sub hl [1, 2, 3, 4, 5, 6] rfl)
    · have hf := q_if hf hc10
      refine lv_iload hx hb dX5_gameWinner_49 (lv_at hl 5 rfl) ?_
      refine lv_aload_n hx hb dX5_gameWinner_51 rfl (lv_at hl 1 rfl) ?_
      refine q_get (TT := TX5) C0 in_X5_gameWinner_X5 2 m_X5_gameWinner_f18 hP 0 rfl rfl (by decide) rfl rfl dX5_gameWinner_52 ?_
      refine lv_icmp_lt (tgt := 69) hx hb dX5_gameWinner_55 (by decide) (fun hc11 => ?_) (fun hc11 => ?_)
      · have hf := q_if hf hc11
        exact B_X5_gameWinner_69 C0 hf H locs ls hP hD hS (lv_sub hl [1, 2, 3, 4, 5, 6] rfl)
      · have hf := q_nif hf hc11
        refine lv_iload hx hb dX5_gameWinner_58 (lv_at hl 5 rfl) ?_
        refine lv_iload hx hb dX5_gameWinner_60 (lv_at hl 6 rfl) ?_
        refine lv_icmp_le (tgt := 69) hx hb dX5_gameWinner_62 (by decide) (fun hc12 => ?_) (fun hc12 => ?_)
        · have hf := q_if hf hc12
          exact B_X5_gameWinner_69 C0 hf H locs ls hP hD hS (lv_sub hl [1, 2, 3, 4, 5, 6] rfl)
        · have hf := q_nif hf hc12
          exact B_X5_gameWinner_65 C0 hf H locs ls hP hD hS (lv_sub hl [1, 2, 3, 4, 5, 6] rfl)
set_option maxHeartbeats 4000000 in
set_option maxRecDepth 100000 in
theorem B_X5_gameWinner_36 {p : Program} {l : Launch} {e : Env} {s : State} {m : MethodId} {args : Array Value} {below : List Frame} {meth : Method} {c : Code} {A : Nat → Prop} {dC : Nat → ClassId} {dI : Nat → Nat → Nat} {cI cJ cZ : ClassId} {aR : Nat} (C0 : q_C p s m args meth c (dC, dI) (q_T cI cJ cZ) A RX5 wsX5_gameWinner cX5_gameWinner 7 (some .int)) {x1 : Int32} {x2 : Int32} {x3 : Int32} {x4 : Int32} {x5 : Int32} {r : (Nat → Int32)} {R : Int32} (hf : b_X5_gameWinner_36 x1 x2 x3 x4 x5 r = some R) : ∀ (H : Heap) (locs : List Loc) (ls : Array Slot), va_P (dC, dI) vwCl [(aR, .inr (5, [.int (r 0), .int (r 1), .int (r 2), .int (r 3), .int (r 4), .int (r 5), .int (r 6)]))] H → va_D A [(aR, .inr (5, [.int (r 0), .int (r 1), .int (r 2), .int (r 3), .int (r 4), .int (r 5), .int (r 6)]))] → va_S A s.heap H locs → lv_has ls 7 [(0, .ref aR), (1, .int x1), (2, .int x2), (3, .int x3), (4, .int x4), (5, .int x5)] → W p l e rmX5_gameWinner s m args below meth c H locs 0 0 (MQ below (qI (dC, dI) (q_T cI cJ cZ) [(aR, .inr (5, [.int (r 0), .int (r 1), .int (r 2), .int (r 3), .int (r 4), .int (r 5), .int (r 6)]))] R A) args s 0 0 A) (F0 m 36 ls []) := by
  obtain ⟨hx, hb, hml, hown, hts, hrt, hlk, hK, hX, hA⟩ := id C0
  intro H locs ls hP hD hS hl
  unfold b_X5_gameWinner_36 at hf
  refine lv_iconst (v := 0) hx hb dX5_gameWinner_36 (by decide) ?_
  exact B_X5_gameWinner_37 C0 hf H locs ls hP hD hS hl
set_option maxHeartbeats 4000000 in
set_option maxRecDepth 100000 in
theorem B_X5_gameWinner_0 {p : Program} {l : Launch} {e : Env} {s : State} {m : MethodId} {args : Array Value} {below : List Frame} {meth : Method} {c : Code} {A : Nat → Prop} {dC : Nat → ClassId} {dI : Nat → Nat → Nat} {cI cJ cZ : ClassId} {aR : Nat} (C0 : q_C p s m args meth c (dC, dI) (q_T cI cJ cZ) A RX5 wsX5_gameWinner cX5_gameWinner 7 (some .int)) {x1 : Int32} {x2 : Int32} {x3 : Int32} {r : (Nat → Int32)} {R : Int32} (hf : f_X5_gameWinner x1 x2 x3 r = some R) : ∀ (H : Heap) (locs : List Loc) (ls : Array Slot), va_P (dC, dI) vwCl [(aR, .inr (5, [.int (r 0), .int (r 1), .int (r 2), .int (r 3), .int (r 4), .int (r 5), .int (r 6)]))] H → va_D A [(aR, .inr (5, [.int (r 0), .int (r 1), .int (r 2), .int (r 3), .int (r 4), .int (r 5), .int (r 6)]))] → va_S A s.heap H locs → lv_has ls 7 [(0, .ref aR), (1, .int x1), (2, .int x2), (3, .int x3)] → W p l e rmX5_gameWinner s m args below meth c H locs 0 0 (MQ below (qI (dC, dI) (q_T cI cJ cZ) [(aR, .inr (5, [.int (r 0), .int (r 1), .int (r 2), .int (r 3), .int (r 4), .int (r 5), .int (r 6)]))] R A) args s 0 0 A) (F0 m 0 ls []) := by
  obtain ⟨hx, hb, hml, hown, hts, hrt, hlk, hK, hX, hA⟩ := id C0
  intro H locs ls hP hD hS hl
  unfold f_X5_gameWinner at hf
  refine lv_iload_n hx hb dX5_gameWinner_0 rfl (lv_at hl 2 rfl) ?_
  refine lv_iload_n hx hb dX5_gameWinner_1 rfl (lv_at hl 3 rfl) ?_
  refine q_max C0 hl.1 m_X5_gameWinner_l37 m_X5_gameWinner_stmax m_X5_gameWinner_imath m_X5_gameWinner_cmax (Nat.le_of_ble_eq_true rfl) (Nat.le_of_ble_eq_true rfl) dX5_gameWinner_2 ?_
  refine lv_istore (lv' := [(4, .int (if x2 < x3 then x3 else x2)), (0, .ref aR), (1, .int x1), (2, .int x2), (3, .int x3)]) hx hb dX5_gameWinner_5 hl (by decide) rfl (fun ls hl => ?_)
  refine lv_iload_n hx hb dX5_gameWinner_7 rfl (lv_at hl 3 rfl) ?_
  refine lv_iload_n hx hb dX5_gameWinner_8 rfl (lv_at hl 4 rfl) ?_
  refine q_min C0 hl.1 m_X5_gameWinner_l43 m_X5_gameWinner_stmin m_X5_gameWinner_imath m_X5_gameWinner_cmin (Nat.le_of_ble_eq_true rfl) (Nat.le_of_ble_eq_true rfl) dX5_gameWinner_9 ?_
  refine lv_istore (lv' := [(5, .int (if x3 < x2 then x3 else x2)), (4, .int (if x2 < x3 then x3 else x2)), (0, .ref aR), (1, .int x1), (2, .int x2), (3, .int x3)]) hx hb dX5_gameWinner_12 hl (by decide) rfl (fun ls hl => ?_)
  refine lv_iload hx hb dX5_gameWinner_14 (lv_at hl 1 rfl) ?_
  refine lv_aload_n hx hb dX5_gameWinner_16 rfl (lv_at hl 2 rfl) ?_
  refine q_get (TT := TX5) C0 in_X5_gameWinner_X5 2 m_X5_gameWinner_f18 hP 0 rfl rfl (by decide) rfl rfl dX5_gameWinner_17 ?_
  refine lv_icmp_lt (tgt := 36) hx hb dX5_gameWinner_20 (by decide) (fun hc13 => ?_) (fun hc13 => ?_)
  · have hf := q_if hf hc13
    exact B_X5_gameWinner_36 C0 hf H locs ls hP hD hS (lv_sub hl [2, 3, 4, 5, 1, 0] rfl)
  · have hf := q_nif hf hc13
    refine lv_iload hx hb dX5_gameWinner_23 (lv_at hl 1 rfl) ?_
    refine lv_iload hx hb dX5_gameWinner_25 (lv_at hl 0 rfl) ?_
    refine lv_isub hx hb dX5_gameWinner_27 ?_
    refine lv_iconst (v := 2) hx hb dX5_gameWinner_28 (by decide) ?_
    refine lv_icmp_lt (tgt := 36) hx hb dX5_gameWinner_29 (by decide) (fun hc14 => ?_) (fun hc14 => ?_)
    · have hf := q_if hf hc14
      exact B_X5_gameWinner_36 C0 hf H locs ls hP hD hS (lv_sub hl [2, 3, 4, 5, 1, 0] rfl)
    · have hf := q_nif hf hc14
      refine lv_iconst (v := 1) hx hb dX5_gameWinner_32 (by decide) ?_
      refine lv_goto (tgt := 37) hx hb dX5_gameWinner_33 (by decide) ?_
      exact B_X5_gameWinner_37 C0 hf H locs ls hP hD hS (lv_sub hl [2, 3, 4, 5, 1, 0] rfl)
set_option maxHeartbeats 4000000 in
set_option maxRecDepth 100000 in
theorem c_X5_gameWinner {l : Launch} {dC : Nat → ClassId} {dI : Nat → Nat → Nat} {cI cJ cZ : ClassId} {aR : Nat} {x1 : Int32} {x2 : Int32} {x3 : Int32} {r : (Nat → Int32)} {R : Int32} (hf : f_X5_gameWinner x1 x2 x3 r = some R) : q_M l yX5_gameWinner wsX5_gameWinner rmX5_gameWinner (dC, dI) (q_T cI cJ cZ) [.ref aR, .int x1, .int x2, .int x3] [(aR, .inr (5, [.int (r 0), .int (r 1), .int (r 2), .int (r 3), .int (r 4), .int (r 5), .int (r 6)]))] (qI (dC, dI) (q_T cI cJ cZ) [(aR, .inr (5, [.int (r 0), .int (r 1), .int (r 2), .int (r 3), .int (r 4), .int (r 5), .int (r 6)]))] R) := by
  refine q_body (cc := cX5_gameWinner) (maxL := 7) (ret := (some .int)) (by decide) rfl (Nat.le_of_ble_eq_true rfl) ?_
  intro p e s m args below meth c A C0 ls hP hD hS hl
  have hl : lv_has ls 7 [(0, .ref aR), (1, .int x1), (2, .int x2), (3, .int x3)] := hl
  exact B_X5_gameWinner_0 C0 hf s.heap [] ls hP hD hS hl
/-! ## RungPlay$Rules.setWinner -/
abbrev rmX5_setWinner : Room := { frames := 1, cells := 0, slots := 0, locals := 21 }
theorem m_X5_setWinner_f21 : Cond.fieldLink RX5 21 RX5 "toGames" "I" ∈ wsX5_setWinner := by decide +kernel
theorem in_X5_setWinner_X5 : ∀ w ∈ wsX50, w ∈ wsX5_setWinner := by decide +kernel
theorem m_X5_setWinner_l37 : Cond.methodLink RX5 37 Lib.Math.max.name ∈ wsX5_setWinner := by decide +kernel
theorem m_X5_setWinner_stmax : Cond.static Lib.Math.max.name ∈ wsX5_setWinner := by decide +kernel
theorem m_X5_setWinner_imath : Cond.initialized "java/lang/Math" ∈ wsX5_setWinner := by decide +kernel
theorem m_X5_setWinner_cmax : Cond.code Lib.Math.max.name Lib.Math.max.code 2 (some .int) ∈ wsX5_setWinner := by decide +kernel
theorem m_X5_setWinner_l49 : Cond.methodLink RX5 49 Lib.Math.abs.name ∈ wsX5_setWinner := by decide +kernel
theorem m_X5_setWinner_stabs : Cond.static Lib.Math.abs.name ∈ wsX5_setWinner := by decide +kernel
theorem m_X5_setWinner_cabs : Cond.code Lib.Math.abs.name Lib.Math.abs.code 1 (some .int) ∈ wsX5_setWinner := by decide +kernel
noncomputable def b_X5_setWinner_56 (x1 : Int32) (x2 : Int32) (r : (Nat → Int32)) : Option (Int32) :=
  (q_b1 (f_X5_leader x1 x2) (fun r1 => (some r1)))
noncomputable def b_X5_setWinner_45 (x1 : Int32) (x2 : Int32) (x3 : Int32) (s0 : Int32) (r : (Nat → Int32)) : Option (Int32) :=
  (if x3 = 0 then (if s0 = 0 then (some 0) else (b_X5_setWinner_56 x1 x2 r)) else (b_X5_setWinner_56 x1 x2 r))
noncomputable def b_X5_setWinner_27 (x1 : Int32) (x2 : Int32) (s0 : Int32) (r : (Nat → Int32)) : Option (Int32) :=
  (if (x1 + x2) ≤ (2 * (r 3)) then (b_X5_setWinner_45 x1 x2 s0 0 r) else (b_X5_setWinner_45 x1 x2 s0 1 r))
noncomputable def b_X5_setWinner_26 (x1 : Int32) (x2 : Int32) (r : (Nat → Int32)) : Option (Int32) :=
  (b_X5_setWinner_27 x1 x2 0 r)
noncomputable def f_X5_setWinner (x1 : Int32) (x2 : Int32) (r : (Nat → Int32)) : Option (Int32) :=
  (if (if x1 < x2 then x2 else x1) < (r 3) then (b_X5_setWinner_26 x1 x2 r) else (if (if 0 ≤ (x1 - x2) then (x1 - x2) else 0 - (x1 - x2)) < 2 then (b_X5_setWinner_26 x1 x2 r) else (b_X5_setWinner_27 x1 x2 1 r)))
set_option maxHeartbeats 4000000 in
set_option maxRecDepth 100000 in
theorem B_X5_setWinner_56 {p : Program} {l : Launch} {e : Env} {s : State} {m : MethodId} {args : Array Value} {below : List Frame} {meth : Method} {c : Code} {A : Nat → Prop} {dC : Nat → ClassId} {dI : Nat → Nat → Nat} {cI cJ cZ : ClassId} {aR : Nat} (C0 : q_C p s m args meth c (dC, dI) (q_T cI cJ cZ) A RX5 wsX5_setWinner cX5_setWinner 5 (some .int)) {x1 : Int32} {x2 : Int32} {r : (Nat → Int32)} {R : Int32} (hf : b_X5_setWinner_56 x1 x2 r = some R) : ∀ (H : Heap) (locs : List Loc) (ls : Array Slot), va_P (dC, dI) vwCl [(aR, .inr (5, [.int (r 0), .int (r 1), .int (r 2), .int (r 3), .int (r 4), .int (r 5), .int (r 6)]))] H → va_D A [(aR, .inr (5, [.int (r 0), .int (r 1), .int (r 2), .int (r 3), .int (r 4), .int (r 5), .int (r 6)]))] → va_S A s.heap H locs → lv_has ls 5 [(1, .int x1), (2, .int x2)] → W p l e rmX5_setWinner s m args below meth c H locs 0 0 (MQ below (qI (dC, dI) (q_T cI cJ cZ) [(aR, .inr (5, [.int (r 0), .int (r 1), .int (r 2), .int (r 3), .int (r 4), .int (r 5), .int (r 6)]))] R A) args s 0 0 A) (F0 m 56 ls []) := by
  obtain ⟨hx, hb, hml, hown, hts, hrt, hlk, hK, hX, hA⟩ := id C0
  intro H locs ls hP hD hS hl
  unfold b_X5_setWinner_56 at hf
  refine lv_iload_n hx hb dX5_setWinner_56 rfl (lv_at hl 0 rfl) ?_
  refine lv_iload_n hx hb dX5_setWinner_57 rfl (lv_at hl 1 rfl) ?_
  obtain ⟨r1, hg2, hf⟩ := q_e1 hf
  refine q_endI (wc := []) (wr := [(aR, .inr (5, [.int (r 0), .int (r 1), .int (r 2), .int (r 3), .int (r 4), .int (r 5), .int (r 6)]))]) (w1 := []) (rv := r1) C0 hP hD hS [] [0] rfl rfl (by decide) (by decide) (q_runS C0 (c_X5_leader (l := l) hg2) (va_cwS 2 hts gX5_setWinner_X5_leader rfl rfl rfl (by decide +kernel) ⟨Nat.le_of_ble_eq_true rfl, Nat.le_of_ble_eq_true rfl⟩) hP hD hS [] rfl (by decide) rfl rfl hl.1 (Nat.le_of_ble_eq_true rfl) dX5_setWinner_58) (fun H locs hP hD hS => ?_)
  have hP : va_P (dC, dI) vwCl [(aR, .inr (5, [.int (r 0), .int (r 1), .int (r 2), .int (r 3), .int (r 4), .int (r 5), .int (r 6)]))] H := hP
  have hD : va_D A [(aR, .inr (5, [.int (r 0), .int (r 1), .int (r 2), .int (r 3), .int (r 4), .int (r 5), .int (r 6)]))] := hD
  refine lv_goto (tgt := 65) hx hb dX5_setWinner_61 (by decide) ?_
  obtain rfl := Option.some.inj hf
  exact q_retI C0 hP hD hS dX5_setWinner_65
set_option maxHeartbeats 4000000 in
set_option maxRecDepth 100000 in
theorem B_X5_setWinner_45 {p : Program} {l : Launch} {e : Env} {s : State} {m : MethodId} {args : Array Value} {below : List Frame} {meth : Method} {c : Code} {A : Nat → Prop} {dC : Nat → ClassId} {dI : Nat → Nat → Nat} {cI cJ cZ : ClassId} {aR : Nat} (C0 : q_C p s m args meth c (dC, dI) (q_T cI cJ cZ) A RX5 wsX5_setWinner cX5_setWinner 5 (some .int)) {x1 : Int32} {x2 : Int32} {x3 : Int32} {s0 : Int32} {r : (Nat → Int32)} {R : Int32} (hf : b_X5_setWinner_45 x1 x2 x3 s0 r = some R) : ∀ (H : Heap) (locs : List Loc) (ls : Array Slot), va_P (dC, dI) vwCl [(aR, .inr (5, [.int (r 0), .int (r 1), .int (r 2), .int (r 3), .int (r 4), .int (r 5), .int (r 6)]))] H → va_D A [(aR, .inr (5, [.int (r 0), .int (r 1), .int (r 2), .int (r 3), .int (r 4), .int (r 5), .int (r 6)]))] → va_S A s.heap H locs → lv_has ls 5 [(1, .int x1), (2, .int x2), (3, .int x3)] → W p l e rmX5_setWinner s m args below meth c H locs 0 0 (MQ below (qI (dC, dI) (q_T cI cJ cZ) [(aR, .inr (5, [.int (r 0), .int (r 1), .int (r 2), .int (r 3), .int (r 4), .int (r 5), .int (r 6)]))] R A) args s 0 0 A) (F0 m 45 ls [.int s0]) := by
  obtain ⟨hx, hb, hml, hown, hts, hrt, hlk, hK, hX, hA⟩ := id C0
  intro H locs ls hP hD hS hl
  unfold b_X5_setWinner_45 at hf
  refine lv_istore (lv' := [(4, .int s0), (1, .int x1), (2, .int x2), (3, .int x3)]) hx hb dX5_setWinner_45 hl (by decide) rfl (fun ls hl => ?_)
  refine lv_iload_n hx hb dX5_setWinner_47 rfl (lv_at hl 3 rfl) ?_
  refine lv_if_ne (tgt := 56) hx hb dX5_setWinner_48 (by decide) (fun hc3 => ?_) (fun hc3 => ?_)
  · have hf := q_nif hf hc3
    exact B_X5_setWinner_56 C0 hf H locs ls hP hD hS (lv_sub hl [1, 2] rfl)
  · have hf := q_if hf hc3
    refine lv_iload hx hb dX5_setWinner_51 (lv_at hl 0 rfl) ?_
    refine lv_if_eq (tgt := 64) hx hb dX5_setWinner_53 (by decide) (fun hc4 => ?_) (fun hc4 => ?_)
    · have hf := q_if hf hc4
      refine lv_iconst (v := 0) hx hb dX5_setWinner_64 (by decide) ?_
      obtain rfl := Option.some.inj hf
      exact q_retI C0 hP hD hS dX5_setWinner_65
    · have hf := q_nif hf hc4
      exact B_X5_setWinner_56 C0 hf H locs ls hP hD hS (lv_sub hl [1, 2] rfl)
set_option maxHeartbeats 4000000 in
set_option maxRecDepth 100000 in
theorem B_X5_setWinner_27 {p : Program} {l : Launch} {e : Env} {s : State} {m : MethodId} {args : Array Value} {below : List Frame} {meth : Method} {c : Code} {A : Nat → Prop} {dC : Nat → ClassId} {dI : Nat → Nat → Nat} {cI cJ cZ : ClassId} {aR : Nat} (C0 : q_C p s m args meth c (dC, dI) (q_T cI cJ cZ) A RX5 wsX5_setWinner cX5_setWinner 5 (some .int)) {x1 : Int32} {x2 : Int32} {s0 : Int32} {r : (Nat → Int32)} {R : Int32} (hf : b_X5_setWinner_27 x1 x2 s0 r = some R) : ∀ (H : Heap) (locs : List Loc) (ls : Array Slot), va_P (dC, dI) vwCl [(aR, .inr (5, [.int (r 0), .int (r 1), .int (r 2), .int (r 3), .int (r 4), .int (r 5), .int (r 6)]))] H → va_D A [(aR, .inr (5, [.int (r 0), .int (r 1), .int (r 2), .int (r 3), .int (r 4), .int (r 5), .int (r 6)]))] → va_S A s.heap H locs → lv_has ls 5 [(0, .ref aR), (1, .int x1), (2, .int x2)] → W p l e rmX5_setWinner s m args below meth c H locs 0 0 (MQ below (qI (dC, dI) (q_T cI cJ cZ) [(aR, .inr (5, [.int (r 0), .int (r 1), .int (r 2), .int (r 3), .int (r 4), .int (r 5), .int (r 6)]))] R A) args s 0 0 A) (F0 m 27 ls [.int s0]) := by
  obtain ⟨hx, hb, hml, hown, hts, hrt, hlk, hK, hX, hA⟩ := id C0
  intro H locs ls hP hD hS hl
  unfold b_X5_setWinner_27 at hf
  refine lv_istore_n (lv' := [(3, .int s0), (0, .ref aR), (1, .int x1), (2, .int x2)]) hx hb dX5_setWinner_27 rfl hl (by decide) rfl (fun ls hl => ?_)
  refine lv_iload_n hx hb dX5_setWinner_28 rfl (lv_at hl 2 rfl) ?_
  refine lv_iload_n hx hb dX5_setWinner_29 rfl (lv_at hl 3 rfl) ?_
  refine lv_iadd hx hb dX5_setWinner_30 ?_
  refine lv_iconst (v := 2) hx hb dX5_setWinner_31 (by decide) ?_
  refine lv_aload_n hx hb dX5_setWinner_32 rfl (lv_at hl 1 rfl) ?_
  refine q_get (TT := TX5) C0 in_X5_setWinner_X5 3 m_X5_setWinner_f21 hP 0 rfl rfl (by decide) rfl rfl dX5_setWinner_33 ?_
  refine lv_imul hx hb dX5_setWinner_36 ?_
  refine lv_icmp_le (tgt := 44) hx hb dX5_setWinner_37 (by decide) (fun hc5 => ?_) (fun hc5 => ?_)
  · have hf := q_if hf hc5
    refine lv_iconst (v := 0) hx hb dX5_setWinner_44 (by decide) ?_
    exact B_X5_setWinner_45 C0 hf H locs ls hP hD hS (lv_sub hl [2, 3, 0] rfl)
  · have hf := q_nif hf hc5
    refine lv_iconst (v := 1) hx hb dX5_setWinner_40 (by decide) ?_
    refine lv_goto (tgt := 45) hx hb dX5_setWinner_41 (by decide) ?_
    exact B_X5_setWinner_45 C0 hf H locs ls hP hD hS (lv_sub hl [2, 3, 0] rfl)
set_option maxHeartbeats 4000000 in
set_option maxRecDepth 100000 in
theorem B_X5_setWinner_26 {p : Program} {l : Launch} {e : Env} {s : State} {m : MethodId} {args : Array Value} {below : List Frame} {meth : Method} {c : Code} {A : Nat → Prop} {dC : Nat → ClassId} {dI : Nat → Nat → Nat} {cI cJ cZ : ClassId} {aR : Nat} (C0 : q_C p s m args meth c (dC, dI) (q_T cI cJ cZ) A RX5 wsX5_setWinner cX5_setWinner 5 (some .int)) {x1 : Int32} {x2 : Int32} {r : (Nat → Int32)} {R : Int32} (hf : b_X5_setWinner_26 x1 x2 r = some R) : ∀ (H : Heap) (locs : List Loc) (ls : Array Slot), va_P (dC, dI) vwCl [(aR, .inr (5, [.int (r 0), .int (r 1), .int (r 2), .int (r 3), .int (r 4), .int (r 5), .int (r 6)]))] H → va_D A [(aR, .inr (5, [.int (r 0), .int (r 1), .int (r 2), .int (r 3), .int (r 4), .int (r 5), .int (r 6)]))] → va_S A s.heap H locs → lv_has ls 5 [(0, .ref aR), (1, .int x1), (2, .int x2)] → W p l e rmX5_setWinner s m args below meth c H locs 0 0 (MQ below (qI (dC, dI) (q_T cI cJ cZ) [(aR, .inr (5, [.int (r 0), .int (r 1), .int (r 2), .int (r 3), .int (r 4), .int (r 5), .int (r 6)]))] R A) args s 0 0 A) (F0 m 26 ls []) := by
  obtain ⟨hx, hb, hml, hown, hts, hrt, hlk, hK, hX, hA⟩ := id C0
  intro H locs ls hP hD hS hl
  unfold b_X5_setWinner_26 at hf
  refine lv_iconst (v := 0) hx hb dX5_setWinner_26 (by decide) ?_
  exact B_X5_setWinner_27 C0 hf H locs ls hP hD hS hl
set_option maxHeartbeats 4000000 in
set_option maxRecDepth 100000 in
theorem B_X5_setWinner_0 {p : Program} {l : Launch} {e : Env} {s : State} {m : MethodId} {args : Array Value} {below : List Frame} {meth : Method} {c : Code} {A : Nat → Prop} {dC : Nat → ClassId} {dI : Nat → Nat → Nat} {cI cJ cZ : ClassId} {aR : Nat} (C0 : q_C p s m args meth c (dC, dI) (q_T cI cJ cZ) A RX5 wsX5_setWinner cX5_setWinner 5 (some .int)) {x1 : Int32} {x2 : Int32} {r : (Nat → Int32)} {R : Int32} (hf : f_X5_setWinner x1 x2 r = some R) : ∀ (H : Heap) (locs : List Loc) (ls : Array Slot), va_P (dC, dI) vwCl [(aR, .inr (5, [.int (r 0), .int (r 1), .int (r 2), .int (r 3), .int (r 4), .int (r 5), .int (r 6)]))] H → va_D A [(aR, .inr (5, [.int (r 0), .int (r 1), .int (r 2), .int (r 3), .int (r 4), .int (r 5), .int (r 6)]))] → va_S A s.heap H locs → lv_has ls 5 [(0, .ref aR), (1, .int x1), (2, .int x2)] → W p l e rmX5_setWinner s m args below meth c H locs 0 0 (MQ below (qI (dC, dI) (q_T cI cJ cZ) [(aR, .inr (5, [.int (r 0), .int (r 1), .int (r 2), .int (r 3), .int (r 4), .int (r 5), .int (r 6)]))] R A) args s 0 0 A) (F0 m 0 ls []) := by
  obtain ⟨hx, hb, hml, hown, hts, hrt, hlk, hK, hX, hA⟩ := id C0
  intro H locs ls hP hD hS hl
  unfold f_X5_setWinner at hf
  refine lv_iload_n hx hb dX5_setWinner_0 rfl (lv_at hl 1 rfl) ?_
  refine lv_iload_n hx hb dX5_setWinner_1 rfl (lv_at hl 2 rfl) ?_
  refine q_max C0 hl.1 m_X5_setWinner_l37 m_X5_setWinner_stmax m_X5_setWinner_imath m_X5_setWinner_cmax (Nat.le_of_ble_eq_true rfl) (Nat.le_of_ble_eq_true rfl) dX5_setWinner_2 ?_
  refine lv_aload_n hx hb dX5_setWinner_5 rfl (lv_at hl 0 rfl) ?_
  refine q_get (TT := TX5) C0 in_X5_setWinner_X5 3 m_X5_setWinner_f21 hP 0 rfl rfl (by decide) rfl rfl dX5_setWinner_6 ?_
  refine lv_icmp_lt (tgt := 26) hx hb dX5_setWinner_9 (by decide) (fun hc6 => ?_) (fun hc6 => ?_)
  · have hf := q_if hf hc6
    exact B_X5_setWinner_26 C0 hf H locs ls hP hD hS hl
  · have hf := q_nif hf hc6
    refine lv_iload_n hx hb dX5_setWinner_12 rfl (lv_at hl 1 rfl) ?_
    refine lv_iload_n hx hb dX5_setWinner_13 rfl (lv_at hl 2 rfl) ?_
    refine lv_isub hx hb dX5_setWinner_14 ?_
    refine q_abs C0 hl.1 m_X5_setWinner_l49 m_X5_setWinner_stabs m_X5_setWinner_imath m_X5_setWinner_cabs (Nat.le_of_ble_eq_true rfl) (Nat.le_of_ble_eq_true rfl) dX5_setWinner_15 ?_
    refine lv_iconst (v := 2) hx hb dX5_setWinner_18 (by decide) ?_
    refine lv_icmp_lt (tgt := 26) hx hb dX5_setWinner_19 (by decide) (fun hc7 => ?_) (fun hc7 => ?_)
    · have hf := q_if hf hc7
      exact B_X5_setWinner_26 C0 hf H locs ls hP hD hS hl
    · have hf := q_nif hf hc7
      refine lv_iconst (v := 1) hx hb dX5_setWinner_22 (by decide) ?_
      refine lv_goto (tgt := 27) hx hb dX5_setWinner_23 (by decide) ?_
      exact B_X5_setWinner_27 C0 hf H locs ls hP hD hS hl
set_option maxHeartbeats 4000000 in
set_option maxRecDepth 100000 in
theorem c_X5_setWinner {l : Launch} {dC : Nat → ClassId} {dI : Nat → Nat → Nat} {cI cJ cZ : ClassId} {aR : Nat} {x1 : Int32} {x2 : Int32} {r : (Nat → Int32)} {R : Int32} (hf : f_X5_setWinner x1 x2 r = some R) : q_M l yX5_setWinner wsX5_setWinner rmX5_setWinner (dC, dI) (q_T cI cJ cZ) [.ref aR, .int x1, .int x2] [(aR, .inr (5, [.int (r 0), .int (r 1), .int (r 2), .int (r 3), .int (r 4), .int (r 5), .int (r 6)]))] (qI (dC, dI) (q_T cI cJ cZ) [(aR, .inr (5, [.int (r 0), .int (r 1), .int (r 2), .int (r 3), .int (r 4), .int (r 5), .int (r 6)]))] R) := by
  refine q_body (cc := cX5_setWinner) (maxL := 5) (ret := (some .int)) (by decide) rfl (Nat.le_of_ble_eq_true rfl) ?_
  intro p e s m args below meth c A C0 ls hP hD hS hl
  have hl : lv_has ls 5 [(0, .ref aR), (1, .int x1), (2, .int x2)] := hl
  exact B_X5_setWinner_0 C0 hf s.heap [] ls hP hD hS hl
/-! ## RungPlay$Rules.matchWinner -/
abbrev rmX5_matchWinner : Room := { frames := 1, cells := 0, slots := 0, locals := 21 }
theorem m_X5_matchWinner_f24 : Cond.fieldLink RX5 24 RX5 "toSets" "I" ∈ wsX5_matchWinner := by decide +kernel
theorem in_X5_matchWinner_X5 : ∀ w ∈ wsX50, w ∈ wsX5_matchWinner := by decide +kernel
noncomputable def b_X5_matchWinner_16 (x1 : Int32) (x2 : Int32) (r : (Nat → Int32)) : Option (Int32) :=
  (q_b1 (f_X5_leader x1 x2) (fun r1 => (some r1)))
noncomputable def f_X5_matchWinner (x1 : Int32) (x2 : Int32) (r : (Nat → Int32)) : Option (Int32) :=
  (if (r 4) ≤ x1 then (b_X5_matchWinner_16 x1 x2 r) else (if x2 < (r 4) then (some 0) else (b_X5_matchWinner_16 x1 x2 r)))
set_option maxHeartbeats 4000000 in
set_option maxRecDepth 100000 in
theorem B_X5_matchWinner_16 {p : Program} {l : Launch} {e : Env} {s : State} {m : MethodId} {args : Array Value} {below : List Frame} {meth : Method} {c : Code} {A : Nat → Prop} {dC : Nat → ClassId} {dI : Nat → Nat → Nat} {cI cJ cZ : ClassId} {aR : Nat} (C0 : q_C p s m args meth c (dC, dI) (q_T cI cJ cZ) A RX5 wsX5_matchWinner cX5_matchWinner 3 (some .int)) {x1 : Int32} {x2 : Int32} {r : (Nat → Int32)} {R : Int32} (hf : b_X5_matchWinner_16 x1 x2 r = some R) : ∀ (H : Heap) (locs : List Loc) (ls : Array Slot), va_P (dC, dI) vwCl [(aR, .inr (5, [.int (r 0), .int (r 1), .int (r 2), .int (r 3), .int (r 4), .int (r 5), .int (r 6)]))] H → va_D A [(aR, .inr (5, [.int (r 0), .int (r 1), .int (r 2), .int (r 3), .int (r 4), .int (r 5), .int (r 6)]))] → va_S A s.heap H locs → lv_has ls 3 [(1, .int x1), (2, .int x2)] → W p l e rmX5_matchWinner s m args below meth c H locs 0 0 (MQ below (qI (dC, dI) (q_T cI cJ cZ) [(aR, .inr (5, [.int (r 0), .int (r 1), .int (r 2), .int (r 3), .int (r 4), .int (r 5), .int (r 6)]))] R A) args s 0 0 A) (F0 m 16 ls []) := by
  obtain ⟨hx, hb, hml, hown, hts, hrt, hlk, hK, hX, hA⟩ := id C0
  intro H locs ls hP hD hS hl
  unfold b_X5_matchWinner_16 at hf
  refine lv_iload_n hx hb dX5_matchWinner_16 rfl (lv_at hl 0 rfl) ?_
  refine lv_iload_n hx hb dX5_matchWinner_17 rfl (lv_at hl 1 rfl) ?_
  obtain ⟨r1, hg2, hf⟩ := q_e1 hf
  refine q_endI (wc := []) (wr := [(aR, .inr (5, [.int (r 0), .int (r 1), .int (r 2), .int (r 3), .int (r 4), .int (r 5), .int (r 6)]))]) (w1 := []) (rv := r1) C0 hP hD hS [] [0] rfl rfl (by decide) (by decide) (q_runS C0 (c_X5_leader (l := l) hg2) (va_cwS 2 hts gX5_matchWinner_X5_leader rfl rfl rfl (by decide +kernel) ⟨Nat.le_of_ble_eq_true rfl, Nat.le_of_ble_eq_true rfl⟩) hP hD hS [] rfl (by decide) rfl rfl hl.1 (Nat.le_of_ble_eq_true rfl) dX5_matchWinner_18) (fun H locs hP hD hS => ?_)
  have hP : va_P (dC, dI) vwCl [(aR, .inr (5, [.int (r 0), .int (r 1), .int (r 2), .int (r 3), .int (r 4), .int (r 5), .int (r 6)]))] H := hP
  have hD : va_D A [(aR, .inr (5, [.int (r 0), .int (r 1), .int (r 2), .int (r 3), .int (r 4), .int (r 5), .int (r 6)]))] := hD
  refine lv_goto (tgt := 25) hx hb dX5_matchWinner_21 (by decide) ?_
  obtain rfl := Option.some.inj hf
  exact q_retI C0 hP hD hS dX5_matchWinner_25
set_option maxHeartbeats 4000000 in
set_option maxRecDepth 100000 in
theorem B_X5_matchWinner_0 {p : Program} {l : Launch} {e : Env} {s : State} {m : MethodId} {args : Array Value} {below : List Frame} {meth : Method} {c : Code} {A : Nat → Prop} {dC : Nat → ClassId} {dI : Nat → Nat → Nat} {cI cJ cZ : ClassId} {aR : Nat} (C0 : q_C p s m args meth c (dC, dI) (q_T cI cJ cZ) A RX5 wsX5_matchWinner cX5_matchWinner 3 (some .int)) {x1 : Int32} {x2 : Int32} {r : (Nat → Int32)} {R : Int32} (hf : f_X5_matchWinner x1 x2 r = some R) : ∀ (H : Heap) (locs : List Loc) (ls : Array Slot), va_P (dC, dI) vwCl [(aR, .inr (5, [.int (r 0), .int (r 1), .int (r 2), .int (r 3), .int (r 4), .int (r 5), .int (r 6)]))] H → va_D A [(aR, .inr (5, [.int (r 0), .int (r 1), .int (r 2), .int (r 3), .int (r 4), .int (r 5), .int (r 6)]))] → va_S A s.heap H locs → lv_has ls 3 [(0, .ref aR), (1, .int x1), (2, .int x2)] → W p l e rmX5_matchWinner s m args below meth c H locs 0 0 (MQ below (qI (dC, dI) (q_T cI cJ cZ) [(aR, .inr (5, [.int (r 0), .int (r 1), .int (r 2), .int (r 3), .int (r 4), .int (r 5), .int (r 6)]))] R A) args s 0 0 A) (F0 m 0 ls []) := by
  obtain ⟨hx, hb, hml, hown, hts, hrt, hlk, hK, hX, hA⟩ := id C0
  intro H locs ls hP hD hS hl
  unfold f_X5_matchWinner at hf
  refine lv_iload_n hx hb dX5_matchWinner_0 rfl (lv_at hl 1 rfl) ?_
  refine lv_aload_n hx hb dX5_matchWinner_1 rfl (lv_at hl 0 rfl) ?_
  refine q_get (TT := TX5) C0 in_X5_matchWinner_X5 4 m_X5_matchWinner_f24 hP 0 rfl rfl (by decide) rfl rfl dX5_matchWinner_2 ?_
  refine lv_icmp_ge (tgt := 16) hx hb dX5_matchWinner_5 (by decide) (fun hc3 => ?_) (fun hc3 => ?_)
  · have hf := q_if hf hc3
    exact B_X5_matchWinner_16 C0 hf H locs ls hP hD hS (lv_sub hl [1, 2] rfl)
  · have hf := q_nif hf hc3
    refine lv_iload_n hx hb dX5_matchWinner_8 rfl (lv_at hl 2 rfl) ?_
    refine lv_aload_n hx hb dX5_matchWinner_9 rfl (lv_at hl 0 rfl) ?_
    refine q_get (TT := TX5) C0 in_X5_matchWinner_X5 4 m_X5_matchWinner_f24 hP 0 rfl rfl (by decide) rfl rfl dX5_matchWinner_10 ?_
    refine lv_icmp_lt (tgt := 24) hx hb dX5_matchWinner_13 (by decide) (fun hc4 => ?_) (fun hc4 => ?_)
    · have hf := q_if hf hc4
      refine lv_iconst (v := 0) hx hb dX5_matchWinner_24 (by decide) ?_
      obtain rfl := Option.some.inj hf
      exact q_retI C0 hP hD hS dX5_matchWinner_25
    · have hf := q_nif hf hc4
      exact B_X5_matchWinner_16 C0 hf H locs ls hP hD hS (lv_sub hl [1, 2] rfl)
set_option maxHeartbeats 4000000 in
set_option maxRecDepth 100000 in
theorem c_X5_matchWinner {l : Launch} {dC : Nat → ClassId} {dI : Nat → Nat → Nat} {cI cJ cZ : ClassId} {aR : Nat} {x1 : Int32} {x2 : Int32} {r : (Nat → Int32)} {R : Int32} (hf : f_X5_matchWinner x1 x2 r = some R) : q_M l yX5_matchWinner wsX5_matchWinner rmX5_matchWinner (dC, dI) (q_T cI cJ cZ) [.ref aR, .int x1, .int x2] [(aR, .inr (5, [.int (r 0), .int (r 1), .int (r 2), .int (r 3), .int (r 4), .int (r 5), .int (r 6)]))] (qI (dC, dI) (q_T cI cJ cZ) [(aR, .inr (5, [.int (r 0), .int (r 1), .int (r 2), .int (r 3), .int (r 4), .int (r 5), .int (r 6)]))] R) := by
  refine q_body (cc := cX5_matchWinner) (maxL := 3) (ret := (some .int)) (by decide) rfl (Nat.le_of_ble_eq_true rfl) ?_
  intro p e s m args below meth c A C0 ls hP hD hS hl
  have hl : lv_has ls 3 [(0, .ref aR), (1, .int x1), (2, .int x2)] := hl
  exact B_X5_matchWinner_0 C0 hf s.heap [] ls hP hD hS hl
/-! ## RungPlay$Rules.allows -/
abbrev rmX5_allows : Room := { frames := 1, cells := 0, slots := 0, locals := 22 }
theorem m_X5_allows_s_X6_within : Cond.static yX6_within ∈ wsX5_allows := by decide +kernel
theorem m_X5_allows_i_X6_within : Cond.initialized RX6 ∈ wsX5_allows := by decide +kernel
theorem m_X5_allows_f18 : Cond.fieldLink RX5 18 RX5 "toPoints" "I" ∈ wsX5_allows := by decide +kernel
theorem in_X5_allows_X5 : ∀ w ∈ wsX50, w ∈ wsX5_allows := by decide +kernel
theorem m_X5_allows_l37 : Cond.methodLink RX5 37 Lib.Math.max.name ∈ wsX5_allows := by decide +kernel
theorem m_X5_allows_stmax : Cond.static Lib.Math.max.name ∈ wsX5_allows := by decide +kernel
theorem m_X5_allows_imath : Cond.initialized "java/lang/Math" ∈ wsX5_allows := by decide +kernel
theorem m_X5_allows_cmax : Cond.code Lib.Math.max.name Lib.Math.max.code 2 (some .int) ∈ wsX5_allows := by decide +kernel
noncomputable def f_X5_allows (x1 : Int32) (x2 : Int32) (r : (Nat → Int32)) : Option (Int32) :=
  (if x1 = 0 then (q_b1 (f_X6_within x2 1 9) (fun r2 => (some r2))) else (if x1 = 1 then (q_b1 (f_X6_within x2 1 9) (fun r5 => (some r5))) else (if x1 = 2 then (q_b1 (f_X6_within x2 1 5) (fun r8 => (some r8))) else (if x1 = 3 then (q_b1 (f_X6_within x2 1 6) (fun r11 => (some r11))) else (if x1 = 4 then (q_b1 (f_X6_within x2 1 3) (fun r14 => (some r14))) else (if x1 = 5 then (q_b1 (f_X6_within x2 0 (if 0 < ((r 2) - 2) then ((r 2) - 2) else 0)) (fun r17 => (some r17))) else (if x1 = 6 then (q_b1 (f_X6_within x2 0 2) (fun r20 => (some r20))) else (some 0))))))))
set_option maxHeartbeats 4000000 in
set_option maxRecDepth 100000 in
theorem B_X5_allows_0 {p : Program} {l : Launch} {e : Env} {s : State} {m : MethodId} {args : Array Value} {below : List Frame} {meth : Method} {c : Code} {A : Nat → Prop} {dC : Nat → ClassId} {dI : Nat → Nat → Nat} {cI cJ cZ : ClassId} {aR : Nat} (C0 : q_C p s m args meth c (dC, dI) (q_T cI cJ cZ) A RX5 wsX5_allows cX5_allows 3 (some .boolean)) {x1 : Int32} {x2 : Int32} {r : (Nat → Int32)} {R : Int32} (hf : f_X5_allows x1 x2 r = some R) : ∀ (H : Heap) (locs : List Loc) (ls : Array Slot), va_P (dC, dI) vwCl [(aR, .inr (5, [.int (r 0), .int (r 1), .int (r 2), .int (r 3), .int (r 4), .int (r 5), .int (r 6)]))] H → va_D A [(aR, .inr (5, [.int (r 0), .int (r 1), .int (r 2), .int (r 3), .int (r 4), .int (r 5), .int (r 6)]))] → va_S A s.heap H locs → lv_has ls 3 [(0, .ref aR), (1, .int x1), (2, .int x2)] → W p l e rmX5_allows s m args below meth c H locs 0 0 (MQ below (qI (dC, dI) (q_T cI cJ cZ) [(aR, .inr (5, [.int (r 0), .int (r 1), .int (r 2), .int (r 3), .int (r 4), .int (r 5), .int (r 6)]))] R A) args s 0 0 A) (F0 m 0 ls []) := by
  obtain ⟨hx, hb, hml, hown, hts, hrt, hlk, hK, hX, hA⟩ := id C0
  obtain ⟨hTens, hN, hNest, hN6, hN4⟩ := hX
  intro H locs ls hP hD hS hl
  unfold f_X5_allows at hf
  refine lv_iload_n hx hb dX5_allows_0 rfl (lv_at hl 1 rfl) ?_
  by_cases hs1 : x1 = 0
  · have hf := q_if hf hs1
    refine lv_tableIn (off := 43) (tgt := 44) hx hb dX5_allows_1 (by rw [hs1]; decide) (by rw [hs1]; decide) (by rw [hs1]; rfl) (by decide) ?_
    refine lv_iload_n hx hb dX5_allows_44 rfl (lv_at hl 2 rfl) ?_
    refine lv_iconst (v := 1) hx hb dX5_allows_45 (by decide) ?_
    refine lv_bipush (v := 9) hx hb dX5_allows_46 (by decide) ?_
    obtain ⟨r2, hg3, hf⟩ := q_e1 hf
    refine q_endI (wc := []) (wr := [(aR, .inr (5, [.int (r 0), .int (r 1), .int (r 2), .int (r 3), .int (r 4), .int (r 5), .int (r 6)]))]) (w1 := []) (rv := r2) C0 hP hD hS [] [0] rfl rfl (by decide) (by decide) (q_runSN C0 (c_X6_within (l := l) hg3) ⟨va_cnB 3 hts gX5_allows_X6_within_n33 rfl rfl rfl hNest (hts _ m_X5_allows_i_X6_within) (by decide +kernel) ⟨Nat.le_of_ble_eq_true rfl, Nat.le_of_ble_eq_true rfl⟩, hts _ m_X5_allows_s_X6_within, trivial⟩ hP hD hS [] rfl (by decide) rfl rfl hl.1 (Nat.le_of_ble_eq_true rfl) dX5_allows_48) (fun H locs hP hD hS => ?_)
    have hP : va_P (dC, dI) vwCl [(aR, .inr (5, [.int (r 0), .int (r 1), .int (r 2), .int (r 3), .int (r 4), .int (r 5), .int (r 6)]))] H := hP
    have hD : va_D A [(aR, .inr (5, [.int (r 0), .int (r 1), .int (r 2), .int (r 3), .int (r 4), .int (r 5), .int (r 6)]))] := hD
    obtain rfl := Option.some.inj hf
    exact q_retZ C0 (q_nar01 (z_X6_within hg3)) hP hD hS dX5_allows_51
  have hf := q_nif hf hs1
  by_cases hs4 : x1 = 1
  · have hf := q_if hf hs4
    refine lv_tableIn (off := 43) (tgt := 44) hx hb dX5_allows_1 (by rw [hs4]; decide) (by rw [hs4]; decide) (by rw [hs4]; rfl) (by decide) ?_
    refine lv_iload_n hx hb dX5_allows_44 rfl (lv_at hl 2 rfl) ?_
    refine lv_iconst (v := 1) hx hb dX5_allows_45 (by decide) ?_
    refine lv_bipush (v := 9) hx hb dX5_allows_46 (by decide) ?_
    obtain ⟨r5, hg6, hf⟩ := q_e1 hf
    refine q_endI (wc := []) (wr := [(aR, .inr (5, [.int (r 0), .int (r 1), .int (r 2), .int (r 3), .int (r 4), .int (r 5), .int (r 6)]))]) (w1 := []) (rv := r5) C0 hP hD hS [] [0] rfl rfl (by decide) (by decide) (q_runSN C0 (c_X6_within (l := l) hg6) ⟨va_cnB 3 hts gX5_allows_X6_within_n33 rfl rfl rfl hNest (hts _ m_X5_allows_i_X6_within) (by decide +kernel) ⟨Nat.le_of_ble_eq_true rfl, Nat.le_of_ble_eq_true rfl⟩, hts _ m_X5_allows_s_X6_within, trivial⟩ hP hD hS [] rfl (by decide) rfl rfl hl.1 (Nat.le_of_ble_eq_true rfl) dX5_allows_48) (fun H locs hP hD hS => ?_)
    have hP : va_P (dC, dI) vwCl [(aR, .inr (5, [.int (r 0), .int (r 1), .int (r 2), .int (r 3), .int (r 4), .int (r 5), .int (r 6)]))] H := hP
    have hD : va_D A [(aR, .inr (5, [.int (r 0), .int (r 1), .int (r 2), .int (r 3), .int (r 4), .int (r 5), .int (r 6)]))] := hD
    obtain rfl := Option.some.inj hf
    exact q_retZ C0 (q_nar01 (z_X6_within hg6)) hP hD hS dX5_allows_51
  have hf := q_nif hf hs4
  by_cases hs7 : x1 = 2
  · have hf := q_if hf hs7
    refine lv_tableIn (off := 51) (tgt := 52) hx hb dX5_allows_1 (by rw [hs7]; decide) (by rw [hs7]; decide) (by rw [hs7]; rfl) (by decide) ?_
    refine lv_iload_n hx hb dX5_allows_52 rfl (lv_at hl 2 rfl) ?_
    refine lv_iconst (v := 1) hx hb dX5_allows_53 (by decide) ?_
    refine lv_iconst (v := 5) hx hb dX5_allows_54 (by decide) ?_
    obtain ⟨r8, hg9, hf⟩ := q_e1 hf
    refine q_endI (wc := []) (wr := [(aR, .inr (5, [.int (r 0), .int (r 1), .int (r 2), .int (r 3), .int (r 4), .int (r 5), .int (r 6)]))]) (w1 := []) (rv := r8) C0 hP hD hS [] [0] rfl rfl (by decide) (by decide) (q_runSN C0 (c_X6_within (l := l) hg9) ⟨va_cnB 3 hts gX5_allows_X6_within_n33 rfl rfl rfl hNest (hts _ m_X5_allows_i_X6_within) (by decide +kernel) ⟨Nat.le_of_ble_eq_true rfl, Nat.le_of_ble_eq_true rfl⟩, hts _ m_X5_allows_s_X6_within, trivial⟩ hP hD hS [] rfl (by decide) rfl rfl hl.1 (Nat.le_of_ble_eq_true rfl) dX5_allows_55) (fun H locs hP hD hS => ?_)
    have hP : va_P (dC, dI) vwCl [(aR, .inr (5, [.int (r 0), .int (r 1), .int (r 2), .int (r 3), .int (r 4), .int (r 5), .int (r 6)]))] H := hP
    have hD : va_D A [(aR, .inr (5, [.int (r 0), .int (r 1), .int (r 2), .int (r 3), .int (r 4), .int (r 5), .int (r 6)]))] := hD
    obtain rfl := Option.some.inj hf
    exact q_retZ C0 (q_nar01 (z_X6_within hg9)) hP hD hS dX5_allows_58
  have hf := q_nif hf hs7
  by_cases hs10 : x1 = 3
  · have hf := q_if hf hs10
    refine lv_tableIn (off := 58) (tgt := 59) hx hb dX5_allows_1 (by rw [hs10]; decide) (by rw [hs10]; decide) (by rw [hs10]; rfl) (by decide) ?_
    refine lv_iload_n hx hb dX5_allows_59 rfl (lv_at hl 2 rfl) ?_
    refine lv_iconst (v := 1) hx hb dX5_allows_60 (by decide) ?_
    refine lv_bipush (v := 6) hx hb dX5_allows_61 (by decide) ?_
    obtain ⟨r11, hg12, hf⟩ := q_e1 hf
    refine q_endI (wc := []) (wr := [(aR, .inr (5, [.int (r 0), .int (r 1), .int (r 2), .int (r 3), .int (r 4), .int (r 5), .int (r 6)]))]) (w1 := []) (rv := r11) C0 hP hD hS [] [0] rfl rfl (by decide) (by decide) (q_runSN C0 (c_X6_within (l := l) hg12) ⟨va_cnB 3 hts gX5_allows_X6_within_n33 rfl rfl rfl hNest (hts _ m_X5_allows_i_X6_within) (by decide +kernel) ⟨Nat.le_of_ble_eq_true rfl, Nat.le_of_ble_eq_true rfl⟩, hts _ m_X5_allows_s_X6_within, trivial⟩ hP hD hS [] rfl (by decide) rfl rfl hl.1 (Nat.le_of_ble_eq_true rfl) dX5_allows_63) (fun H locs hP hD hS => ?_)
    have hP : va_P (dC, dI) vwCl [(aR, .inr (5, [.int (r 0), .int (r 1), .int (r 2), .int (r 3), .int (r 4), .int (r 5), .int (r 6)]))] H := hP
    have hD : va_D A [(aR, .inr (5, [.int (r 0), .int (r 1), .int (r 2), .int (r 3), .int (r 4), .int (r 5), .int (r 6)]))] := hD
    obtain rfl := Option.some.inj hf
    exact q_retZ C0 (q_nar01 (z_X6_within hg12)) hP hD hS dX5_allows_66
  have hf := q_nif hf hs10
  by_cases hs13 : x1 = 4
  · have hf := q_if hf hs13
    refine lv_tableIn (off := 66) (tgt := 67) hx hb dX5_allows_1 (by rw [hs13]; decide) (by rw [hs13]; decide) (by rw [hs13]; rfl) (by decide) ?_
    refine lv_iload_n hx hb dX5_allows_67 rfl (lv_at hl 2 rfl) ?_
    refine lv_iconst (v := 1) hx hb dX5_allows_68 (by decide) ?_
    refine lv_iconst (v := 3) hx hb dX5_allows_69 (by decide) ?_
    obtain ⟨r14, hg15, hf⟩ := q_e1 hf
    refine q_endI (wc := []) (wr := [(aR, .inr (5, [.int (r 0), .int (r 1), .int (r 2), .int (r 3), .int (r 4), .int (r 5), .int (r 6)]))]) (w1 := []) (rv := r14) C0 hP hD hS [] [0] rfl rfl (by decide) (by decide) (q_runSN C0 (c_X6_within (l := l) hg15) ⟨va_cnB 3 hts gX5_allows_X6_within_n33 rfl rfl rfl hNest (hts _ m_X5_allows_i_X6_within) (by decide +kernel) ⟨Nat.le_of_ble_eq_true rfl, Nat.le_of_ble_eq_true rfl⟩, hts _ m_X5_allows_s_X6_within, trivial⟩ hP hD hS [] rfl (by decide) rfl rfl hl.1 (Nat.le_of_ble_eq_true rfl) dX5_allows_70) (fun H locs hP hD hS => ?_)
    have hP : va_P (dC, dI) vwCl [(aR, .inr (5, [.int (r 0), .int (r 1), .int (r 2), .int (r 3), .int (r 4), .int (r 5), .int (r 6)]))] H := hP
    have hD : va_D A [(aR, .inr (5, [.int (r 0), .int (r 1), .int (r 2), .int (r 3), .int (r 4), .int (r 5), .int (r 6)]))] := hD
    obtain rfl := Option.some.inj hf
    exact q_retZ C0 (q_nar01 (z_X6_within hg15)) hP hD hS dX5_allows_73
  have hf := q_nif hf hs13
  by_cases hs16 : x1 = 5
  · have hf := q_if hf hs16
    refine lv_tableIn (off := 73) (tgt := 74) hx hb dX5_allows_1 (by rw [hs16]; decide) (by rw [hs16]; decide) (by rw [hs16]; rfl) (by decide) ?_
    refine lv_iload_n hx hb dX5_allows_74 rfl (lv_at hl 2 rfl) ?_
    refine lv_iconst (v := 0) hx hb dX5_allows_75 (by decide) ?_
    refine lv_iconst (v := 0) hx hb dX5_allows_76 (by decide) ?_
    refine lv_aload_n hx hb dX5_allows_77 rfl (lv_at hl 0 rfl) ?_
    refine q_get (TT := TX5) C0 in_X5_allows_X5 2 m_X5_allows_f18 hP 0 rfl rfl (by decide) rfl rfl dX5_allows_78 ?_
    refine lv_iconst (v := 2) hx hb dX5_allows_81 (by decide) ?_
    refine lv_isub hx hb dX5_allows_82 ?_
    refine q_max C0 hl.1 m_X5_allows_l37 m_X5_allows_stmax m_X5_allows_imath m_X5_allows_cmax (Nat.le_of_ble_eq_true rfl) (Nat.le_of_ble_eq_true rfl) dX5_allows_83 ?_
    obtain ⟨r17, hg18, hf⟩ := q_e1 hf
    refine q_endI (wc := []) (wr := [(aR, .inr (5, [.int (r 0), .int (r 1), .int (r 2), .int (r 3), .int (r 4), .int (r 5), .int (r 6)]))]) (w1 := []) (rv := r17) C0 hP hD hS [] [0] rfl rfl (by decide) (by decide) (q_runSN C0 (c_X6_within (l := l) hg18) ⟨va_cnB 3 hts gX5_allows_X6_within_n33 rfl rfl rfl hNest (hts _ m_X5_allows_i_X6_within) (by decide +kernel) ⟨Nat.le_of_ble_eq_true rfl, Nat.le_of_ble_eq_true rfl⟩, hts _ m_X5_allows_s_X6_within, trivial⟩ hP hD hS [] rfl (by decide) rfl rfl hl.1 (Nat.le_of_ble_eq_true rfl) dX5_allows_86) (fun H locs hP hD hS => ?_)
    have hP : va_P (dC, dI) vwCl [(aR, .inr (5, [.int (r 0), .int (r 1), .int (r 2), .int (r 3), .int (r 4), .int (r 5), .int (r 6)]))] H := hP
    have hD : va_D A [(aR, .inr (5, [.int (r 0), .int (r 1), .int (r 2), .int (r 3), .int (r 4), .int (r 5), .int (r 6)]))] := hD
    obtain rfl := Option.some.inj hf
    exact q_retZ C0 (q_nar01 (z_X6_within hg18)) hP hD hS dX5_allows_89
  have hf := q_nif hf hs16
  by_cases hs19 : x1 = 6
  · have hf := q_if hf hs19
    refine lv_tableIn (off := 89) (tgt := 90) hx hb dX5_allows_1 (by rw [hs19]; decide) (by rw [hs19]; decide) (by rw [hs19]; rfl) (by decide) ?_
    refine lv_iload_n hx hb dX5_allows_90 rfl (lv_at hl 2 rfl) ?_
    refine lv_iconst (v := 0) hx hb dX5_allows_91 (by decide) ?_
    refine lv_iconst (v := 2) hx hb dX5_allows_92 (by decide) ?_
    obtain ⟨r20, hg21, hf⟩ := q_e1 hf
    refine q_endI (wc := []) (wr := [(aR, .inr (5, [.int (r 0), .int (r 1), .int (r 2), .int (r 3), .int (r 4), .int (r 5), .int (r 6)]))]) (w1 := []) (rv := r20) C0 hP hD hS [] [0] rfl rfl (by decide) (by decide) (q_runSN C0 (c_X6_within (l := l) hg21) ⟨va_cnB 3 hts gX5_allows_X6_within_n33 rfl rfl rfl hNest (hts _ m_X5_allows_i_X6_within) (by decide +kernel) ⟨Nat.le_of_ble_eq_true rfl, Nat.le_of_ble_eq_true rfl⟩, hts _ m_X5_allows_s_X6_within, trivial⟩ hP hD hS [] rfl (by decide) rfl rfl hl.1 (Nat.le_of_ble_eq_true rfl) dX5_allows_93) (fun H locs hP hD hS => ?_)
    have hP : va_P (dC, dI) vwCl [(aR, .inr (5, [.int (r 0), .int (r 1), .int (r 2), .int (r 3), .int (r 4), .int (r 5), .int (r 6)]))] H := hP
    have hD : va_D A [(aR, .inr (5, [.int (r 0), .int (r 1), .int (r 2), .int (r 3), .int (r 4), .int (r 5), .int (r 6)]))] := hD
    obtain rfl := Option.some.inj hf
    exact q_retZ C0 (q_nar01 (z_X6_within hg21)) hP hD hS dX5_allows_96
  have hf := q_nif hf hs19
  refine lv_tableOut (tgt := 97) hx hb dX5_allows_1 (by have n0 := lv_neT (a := 0) hs1 rfl; have n1 := lv_neT (a := 1) hs4 rfl; have n2 := lv_neT (a := 2) hs7 rfl; have n3 := lv_neT (a := 3) hs10 rfl; have n4 := lv_neT (a := 4) hs13 rfl; have n5 := lv_neT (a := 5) hs16 rfl; have n6 := lv_neT (a := 6) hs19 rfl; omega) (by decide) ?_
  refine lv_iconst (v := 0) hx hb dX5_allows_97 (by decide) ?_
  obtain rfl := Option.some.inj hf
  exact q_retZ C0 (by rfl) hP hD hS dX5_allows_98
set_option maxHeartbeats 4000000 in
set_option maxRecDepth 100000 in
theorem c_X5_allows {l : Launch} {dC : Nat → ClassId} {dI : Nat → Nat → Nat} {cI cJ cZ : ClassId} {aR : Nat} {x1 : Int32} {x2 : Int32} {r : (Nat → Int32)} {R : Int32} (hf : f_X5_allows x1 x2 r = some R) : q_M l yX5_allows wsX5_allows rmX5_allows (dC, dI) (q_T cI cJ cZ) [.ref aR, .int x1, .int x2] [(aR, .inr (5, [.int (r 0), .int (r 1), .int (r 2), .int (r 3), .int (r 4), .int (r 5), .int (r 6)]))] (qI (dC, dI) (q_T cI cJ cZ) [(aR, .inr (5, [.int (r 0), .int (r 1), .int (r 2), .int (r 3), .int (r 4), .int (r 5), .int (r 6)]))] R) := by
  refine q_body (cc := cX5_allows) (maxL := 3) (ret := (some .boolean)) (by decide) rfl (Nat.le_of_ble_eq_true rfl) ?_
  intro p e s m args below meth c A C0 ls hP hD hS hl
  have hl : lv_has ls 3 [(0, .ref aR), (1, .int x1), (2, .int x2)] := hl
  exact B_X5_allows_0 C0 hf s.heap [] ls hP hD hS hl
/-! ## RungPlay$Pair.clear -/
abbrev rmX3_clear : Room := { frames := 0, cells := 0, slots := 0, locals := 0 }
theorem m_X3_clear_f9 : Cond.fieldLink RX3 9 RX3 "ofA" "I" ∈ wsX3_clear := by decide +kernel
theorem in_X3_clear_X3 : ∀ w ∈ wsX30, w ∈ wsX3_clear := by decide +kernel
theorem m_X3_clear_f15 : Cond.fieldLink RX3 15 RX3 "ofB" "I" ∈ wsX3_clear := by decide +kernel
noncomputable def f_X3_clear (pa : Int32) (pb : Int32) : Option (Int32 × Int32) :=
  (some (0, 0))
set_option maxHeartbeats 4000000 in
set_option maxRecDepth 100000 in
theorem B_X3_clear_0 {p : Program} {l : Launch} {e : Env} {s : State} {m : MethodId} {args : Array Value} {below : List Frame} {meth : Method} {c : Code} {A : Nat → Prop} {dC : Nat → ClassId} {dI : Nat → Nat → Nat} {cI cJ cZ : ClassId} {aP : Nat} (C0 : q_C p s m args meth c (dC, dI) (q_T cI cJ cZ) A RX3 wsX3_clear cX3_clear 1 none) {pa : Int32} {pb : Int32} {R : Int32 × Int32} (hf : f_X3_clear pa pb = some R) : ∀ (H : Heap) (locs : List Loc) (ls : Array Slot), va_P (dC, dI) vwCl [(aP, .inr (3, [.int pa, .int pb]))] H → va_D A [(aP, .inr (3, [.int pa, .int pb]))] → va_S A s.heap H locs → lv_has ls 1 [(0, .ref aP)] → W p l e rmX3_clear s m args below meth c H locs 0 0 (MQ below (qV (dC, dI) (q_T cI cJ cZ) [(aP, .inr (3, [.int R.1, .int R.2]))] A) args s 0 0 A) (F0 m 0 ls []) := by
  obtain ⟨hx, hb, hml, hown, hts, hrt, hlk, hK, hX, hA⟩ := id C0
  intro H locs ls hP hD hS hl
  unfold f_X3_clear at hf
  refine lv_aload_n hx hb dX3_clear_0 rfl (lv_at hl 0 rfl) ?_
  refine lv_iconst (v := 0) hx hb dX3_clear_1 (by decide) ?_
  refine q_put (ty := .int) (TT := TX3) C0 in_X3_clear_X3 tyX3 tyX3_ok nmX3 0 m_X3_clear_f9 hP hD hS 0 rfl rfl (by decide) rfl rfl (by decide +kernel) rfl rfl (Nat.le_of_ble_eq_true rfl) dX3_clear_2 (fun H locs hP hD hS => ?_)
  have hP : va_P (dC, dI) vwCl [(aP, .inr (3, [.int 0, .int pb]))] H := hP
  have hD : va_D A [(aP, .inr (3, [.int 0, .int pb]))] := hD
  refine lv_aload_n hx hb dX3_clear_5 rfl (lv_at hl 0 rfl) ?_
  refine lv_iconst (v := 0) hx hb dX3_clear_6 (by decide) ?_
  refine q_put (ty := .int) (TT := TX3) C0 in_X3_clear_X3 tyX3 tyX3_ok nmX3 1 m_X3_clear_f15 hP hD hS 0 rfl rfl (by decide) rfl rfl (by decide +kernel) rfl rfl (Nat.le_of_ble_eq_true rfl) dX3_clear_7 (fun H locs hP hD hS => ?_)
  have hP : va_P (dC, dI) vwCl [(aP, .inr (3, [.int 0, .int 0]))] H := hP
  have hD : va_D A [(aP, .inr (3, [.int 0, .int 0]))] := hD
  obtain rfl := Option.some.inj hf
  exact q_retV C0 hP hD hS dX3_clear_10
set_option maxHeartbeats 4000000 in
set_option maxRecDepth 100000 in
theorem c_X3_clear {l : Launch} {dC : Nat → ClassId} {dI : Nat → Nat → Nat} {cI cJ cZ : ClassId} {aP : Nat} {pa : Int32} {pb : Int32} {R : Int32 × Int32} (hf : f_X3_clear pa pb = some R) : q_M l yX3_clear wsX3_clear rmX3_clear (dC, dI) (q_T cI cJ cZ) [.ref aP] [(aP, .inr (3, [.int pa, .int pb]))] (qV (dC, dI) (q_T cI cJ cZ) [(aP, .inr (3, [.int R.1, .int R.2]))]) := by
  refine q_body (cc := cX3_clear) (maxL := 1) (ret := none) (by decide) rfl (Nat.le_of_ble_eq_true rfl) ?_
  intro p e s m args below meth c A C0 ls hP hD hS hl
  have hl : lv_has ls 1 [(0, .ref aP)] := hl
  exact B_X3_clear_0 C0 hf s.heap [] ls hP hD hS hl
/-! ## RungPlay$Pair.oneMore -/
abbrev rmX3_oneMore : Room := { frames := 0, cells := 0, slots := 0, locals := 0 }
theorem m_X3_oneMore_f15 : Cond.fieldLink RX3 15 RX3 "ofB" "I" ∈ wsX3_oneMore := by decide +kernel
theorem in_X3_oneMore_X3 : ∀ w ∈ wsX30, w ∈ wsX3_oneMore := by decide +kernel
theorem m_X3_oneMore_f9 : Cond.fieldLink RX3 9 RX3 "ofA" "I" ∈ wsX3_oneMore := by decide +kernel
noncomputable def f_X3_oneMore (x1 : Int32) (pa : Int32) (pb : Int32) : Option (Int32 × Int32) :=
  (if x1 = 0 then (some (pa + 1, pb)) else (some (pa, pb + 1)))
set_option maxHeartbeats 4000000 in
set_option maxRecDepth 100000 in
theorem B_X3_oneMore_0 {p : Program} {l : Launch} {e : Env} {s : State} {m : MethodId} {args : Array Value} {below : List Frame} {meth : Method} {c : Code} {A : Nat → Prop} {dC : Nat → ClassId} {dI : Nat → Nat → Nat} {cI cJ cZ : ClassId} {aP : Nat} (C0 : q_C p s m args meth c (dC, dI) (q_T cI cJ cZ) A RX3 wsX3_oneMore cX3_oneMore 2 none) {x1 : Int32} {pa : Int32} {pb : Int32} {R : Int32 × Int32} (hf : f_X3_oneMore x1 pa pb = some R) : ∀ (H : Heap) (locs : List Loc) (ls : Array Slot), va_P (dC, dI) vwCl [(aP, .inr (3, [.int pa, .int pb]))] H → va_D A [(aP, .inr (3, [.int pa, .int pb]))] → va_S A s.heap H locs → lv_has ls 2 [(0, .ref aP), (1, .int x1)] → W p l e rmX3_oneMore s m args below meth c H locs 0 0 (MQ below (qV (dC, dI) (q_T cI cJ cZ) [(aP, .inr (3, [.int R.1, .int R.2]))] A) args s 0 0 A) (F0 m 0 ls []) := by
  obtain ⟨hx, hb, hml, hown, hts, hrt, hlk, hK, hX, hA⟩ := id C0
  intro H locs ls hP hD hS hl
  unfold f_X3_oneMore at hf
  refine lv_iload_n hx hb dX3_oneMore_0 rfl (lv_at hl 1 rfl) ?_
  refine lv_if_ne (tgt := 17) hx hb dX3_oneMore_1 (by decide) (fun hc1 => ?_) (fun hc1 => ?_)
  · have hf := q_nif hf hc1
    refine lv_aload_n hx hb dX3_oneMore_17 rfl (lv_at hl 0 rfl) ?_
    refine lv_dup hx hb dX3_oneMore_18 rfl ?_
    refine q_get (TT := TX3) C0 in_X3_oneMore_X3 1 m_X3_oneMore_f15 hP 0 rfl rfl (by decide) rfl rfl dX3_oneMore_19 ?_
    refine lv_iconst (v := 1) hx hb dX3_oneMore_22 (by decide) ?_
    refine lv_iadd hx hb dX3_oneMore_23 ?_
    refine q_put (ty := .int) (TT := TX3) C0 in_X3_oneMore_X3 tyX3 tyX3_ok nmX3 1 m_X3_oneMore_f15 hP hD hS 0 rfl rfl (by decide) rfl rfl (by decide +kernel) rfl rfl (Nat.le_of_ble_eq_true rfl) dX3_oneMore_24 (fun H locs hP hD hS => ?_)
    have hP : va_P (dC, dI) vwCl [(aP, .inr (3, [.int pa, .int (pb + 1)]))] H := hP
    have hD : va_D A [(aP, .inr (3, [.int pa, .int (pb + 1)]))] := hD
    obtain rfl := Option.some.inj hf
    exact q_retV C0 hP hD hS dX3_oneMore_27
  · have hf := q_if hf hc1
    refine lv_aload_n hx hb dX3_oneMore_4 rfl (lv_at hl 0 rfl) ?_
    refine lv_dup hx hb dX3_oneMore_5 rfl ?_
    refine q_get (TT := TX3) C0 in_X3_oneMore_X3 0 m_X3_oneMore_f9 hP 0 rfl rfl (by decide) rfl rfl dX3_oneMore_6 ?_
    refine lv_iconst (v := 1) hx hb dX3_oneMore_9 (by decide) ?_
    refine lv_iadd hx hb dX3_oneMore_10 ?_
    refine q_put (ty := .int) (TT := TX3) C0 in_X3_oneMore_X3 tyX3 tyX3_ok nmX3 0 m_X3_oneMore_f9 hP hD hS 0 rfl rfl (by decide) rfl rfl (by decide +kernel) rfl rfl (Nat.le_of_ble_eq_true rfl) dX3_oneMore_11 (fun H locs hP hD hS => ?_)
    have hP : va_P (dC, dI) vwCl [(aP, .inr (3, [.int (pa + 1), .int pb]))] H := hP
    have hD : va_D A [(aP, .inr (3, [.int (pa + 1), .int pb]))] := hD
    refine lv_goto (tgt := 27) hx hb dX3_oneMore_14 (by decide) ?_
    obtain rfl := Option.some.inj hf
    exact q_retV C0 hP hD hS dX3_oneMore_27
set_option maxHeartbeats 4000000 in
set_option maxRecDepth 100000 in
theorem c_X3_oneMore {l : Launch} {dC : Nat → ClassId} {dI : Nat → Nat → Nat} {cI cJ cZ : ClassId} {aP : Nat} {x1 : Int32} {pa : Int32} {pb : Int32} {R : Int32 × Int32} (hf : f_X3_oneMore x1 pa pb = some R) : q_M l yX3_oneMore wsX3_oneMore rmX3_oneMore (dC, dI) (q_T cI cJ cZ) [.ref aP, .int x1] [(aP, .inr (3, [.int pa, .int pb]))] (qV (dC, dI) (q_T cI cJ cZ) [(aP, .inr (3, [.int R.1, .int R.2]))]) := by
  refine q_body (cc := cX3_oneMore) (maxL := 2) (ret := none) (by decide) rfl (Nat.le_of_ble_eq_true rfl) ?_
  intro p e s m args below meth c A C0 ls hP hD hS hl
  have hl : lv_has ls 2 [(0, .ref aP), (1, .int x1)] := hl
  exact B_X3_oneMore_0 C0 hf s.heap [] ls hP hD hS hl
/-! ## RungPlay$Grid.holds -/
abbrev rmX1_holds : Room := { frames := 0, cells := 0, slots := 0, locals := 0 }
theorem m_X1_holds_f13 : Cond.fieldLink RX1 13 RX1 "side" "I" ∈ wsX1_holds := by decide +kernel
theorem in_X1_holds_X1 : ∀ w ∈ wsX10, w ∈ wsX1_holds := by decide +kernel
noncomputable def b_X1_holds_30 (sd : Int32) (gn : Nat) (f : (Nat → Int64)) : Option (Int32) :=
  (some 0)
noncomputable def f_X1_holds (x1 : Int32) (x2 : Int32) (sd : Int32) (gn : Nat) (f : (Nat → Int64)) : Option (Int32) :=
  (if x1 < 0 then (b_X1_holds_30 sd gn f) else (if sd ≤ x1 then (b_X1_holds_30 sd gn f) else (if x2 < 0 then (b_X1_holds_30 sd gn f) else (if sd ≤ x2 then (b_X1_holds_30 sd gn f) else (some 1)))))
set_option maxHeartbeats 4000000 in
set_option maxRecDepth 100000 in
theorem B_X1_holds_30 {p : Program} {l : Launch} {e : Env} {s : State} {m : MethodId} {args : Array Value} {below : List Frame} {meth : Method} {c : Code} {A : Nat → Prop} {dC : Nat → ClassId} {dI : Nat → Nat → Nat} {cI cJ cZ : ClassId} {aG aC : Nat} (C0 : q_C p s m args meth c (dC, dI) (q_T cI cJ cZ) A RX1 wsX1_holds cX1_holds 3 (some .boolean)) {sd : Int32} {gn : Nat} {f : (Nat → Int64)} {R : Int32} (hf : b_X1_holds_30 sd gn f = some R) : ∀ (H : Heap) (locs : List Loc) (ls : Array Slot), va_P (dC, dI) vwCl [(aG, .inr (1, [.int sd, .ref aC])), (aC, .inl (cJ, gn, .inr (.inl f)))] H → va_D A [(aG, .inr (1, [.int sd, .ref aC])), (aC, .inl (cJ, gn, .inr (.inl f)))] → va_S A s.heap H locs → lv_has ls 3 [] → W p l e rmX1_holds s m args below meth c H locs 0 0 (MQ below (qI (dC, dI) (q_T cI cJ cZ) [(aG, .inr (1, [.int sd, .ref aC])), (aC, .inl (cJ, gn, .inr (.inl f)))] R A) args s 0 0 A) (F0 m 30 ls []) := by
  obtain ⟨hx, hb, hml, hown, hts, hrt, hlk, hK, hX, hA⟩ := id C0
  intro H locs ls hP hD hS hl
  unfold b_X1_holds_30 at hf
  refine lv_iconst (v := 0) hx hb dX1_holds_30 (by decide) ?_
  obtain rfl := Option.some.inj hf
  exact q_retZ C0 (by rfl) hP hD hS dX1_holds_31
set_option maxHeartbeats 4000000 in
set_option maxRecDepth 100000 in
theorem B_X1_holds_0 {p : Program} {l : Launch} {e : Env} {s : State} {m : MethodId} {args : Array Value} {below : List Frame} {meth : Method} {c : Code} {A : Nat → Prop} {dC : Nat → ClassId} {dI : Nat → Nat → Nat} {cI cJ cZ : ClassId} {aG aC : Nat} (C0 : q_C p s m args meth c (dC, dI) (q_T cI cJ cZ) A RX1 wsX1_holds cX1_holds 3 (some .boolean)) {x1 : Int32} {x2 : Int32} {sd : Int32} {gn : Nat} {f : (Nat → Int64)} {R : Int32} (hf : f_X1_holds x1 x2 sd gn f = some R) : ∀ (H : Heap) (locs : List Loc) (ls : Array Slot), va_P (dC, dI) vwCl [(aG, .inr (1, [.int sd, .ref aC])), (aC, .inl (cJ, gn, .inr (.inl f)))] H → va_D A [(aG, .inr (1, [.int sd, .ref aC])), (aC, .inl (cJ, gn, .inr (.inl f)))] → va_S A s.heap H locs → lv_has ls 3 [(0, .ref aG), (1, .int x1), (2, .int x2)] → W p l e rmX1_holds s m args below meth c H locs 0 0 (MQ below (qI (dC, dI) (q_T cI cJ cZ) [(aG, .inr (1, [.int sd, .ref aC])), (aC, .inl (cJ, gn, .inr (.inl f)))] R A) args s 0 0 A) (F0 m 0 ls []) := by
  obtain ⟨hx, hb, hml, hown, hts, hrt, hlk, hK, hX, hA⟩ := id C0
  intro H locs ls hP hD hS hl
  unfold f_X1_holds at hf
  refine lv_iconst (v := 0) hx hb dX1_holds_0 (by decide) ?_
  refine lv_iload_n hx hb dX1_holds_1 rfl (lv_at hl 1 rfl) ?_
  refine lv_icmp_gt (tgt := 30) hx hb dX1_holds_2 (by decide) (fun hc1 => ?_) (fun hc1 => ?_)
  · have hf := q_if hf hc1
    exact B_X1_holds_30 C0 hf H locs ls hP hD hS (lv_sub hl [] rfl)
  · have hf := q_nif hf hc1
    refine lv_iload_n hx hb dX1_holds_5 rfl (lv_at hl 1 rfl) ?_
    refine lv_aload_n hx hb dX1_holds_6 rfl (lv_at hl 0 rfl) ?_
    refine q_get (TT := TX1) C0 in_X1_holds_X1 0 m_X1_holds_f13 hP 0 rfl rfl (by decide) rfl rfl dX1_holds_7 ?_
    refine lv_icmp_ge (tgt := 30) hx hb dX1_holds_10 (by decide) (fun hc2 => ?_) (fun hc2 => ?_)
    · have hf := q_if hf hc2
      exact B_X1_holds_30 C0 hf H locs ls hP hD hS (lv_sub hl [] rfl)
    · have hf := q_nif hf hc2
      refine lv_iconst (v := 0) hx hb dX1_holds_13 (by decide) ?_
      refine lv_iload_n hx hb dX1_holds_14 rfl (lv_at hl 2 rfl) ?_
      refine lv_icmp_gt (tgt := 30) hx hb dX1_holds_15 (by decide) (fun hc3 => ?_) (fun hc3 => ?_)
      · have hf := q_if hf hc3
        exact B_X1_holds_30 C0 hf H locs ls hP hD hS (lv_sub hl [] rfl)
      · have hf := q_nif hf hc3
        refine lv_iload_n hx hb dX1_holds_18 rfl (lv_at hl 2 rfl) ?_
        refine lv_aload_n hx hb dX1_holds_19 rfl (lv_at hl 0 rfl) ?_
        refine q_get (TT := TX1) C0 in_X1_holds_X1 0 m_X1_holds_f13 hP 0 rfl rfl (by decide) rfl rfl dX1_holds_20 ?_
        refine lv_icmp_ge (tgt := 30) hx hb dX1_holds_23 (by decide) (fun hc4 => ?_) (fun hc4 => ?_)
        · have hf := q_if hf hc4
          exact B_X1_holds_30 C0 hf H locs ls hP hD hS (lv_sub hl [] rfl)
        · have hf := q_nif hf hc4
          refine lv_iconst (v := 1) hx hb dX1_holds_26 (by decide) ?_
          refine lv_goto (tgt := 31) hx hb dX1_holds_27 (by decide) ?_
          obtain rfl := Option.some.inj hf
          exact q_retZ C0 (by rfl) hP hD hS dX1_holds_31
set_option maxHeartbeats 4000000 in
set_option maxRecDepth 100000 in
theorem c_X1_holds {l : Launch} {dC : Nat → ClassId} {dI : Nat → Nat → Nat} {cI cJ cZ : ClassId} {aG aC : Nat} {x1 : Int32} {x2 : Int32} {sd : Int32} {gn : Nat} {f : (Nat → Int64)} {R : Int32} (hf : f_X1_holds x1 x2 sd gn f = some R) : q_M l yX1_holds wsX1_holds rmX1_holds (dC, dI) (q_T cI cJ cZ) [.ref aG, .int x1, .int x2] [(aG, .inr (1, [.int sd, .ref aC])), (aC, .inl (cJ, gn, .inr (.inl f)))] (qI (dC, dI) (q_T cI cJ cZ) [(aG, .inr (1, [.int sd, .ref aC])), (aC, .inl (cJ, gn, .inr (.inl f)))] R) := by
  refine q_body (cc := cX1_holds) (maxL := 3) (ret := (some .boolean)) (by decide) rfl (Nat.le_of_ble_eq_true rfl) ?_
  intro p e s m args below meth c A C0 ls hP hD hS hl
  have hl : lv_has ls 3 [(0, .ref aG), (1, .int x1), (2, .int x2)] := hl
  exact B_X1_holds_0 C0 hf s.heap [] ls hP hD hS hl
/-! ## RungPlay$Grid.at -/
abbrev rmX1_at : Room := { frames := 1, cells := 0, slots := 0, locals := 22 }
theorem m_X1_at_f19 : Cond.fieldLink RX1 19 RX1 "cells" "[J" ∈ wsX1_at := by decide +kernel
theorem in_X1_at_X1 : ∀ w ∈ wsX10, w ∈ wsX1_at := by decide +kernel
theorem m_X1_at_f13 : Cond.fieldLink RX1 13 RX1 "side" "I" ∈ wsX1_at := by decide +kernel
noncomputable def f_X1_at (x1 : Int32) (x2 : Int32) (sd : Int32) (gn : Nat) (f : (Nat → Int64)) : Option (Int64) :=
  (q_b1 (f_X1_holds x1 x2 sd gn f) (fun r1 => (if r1 = 0 then (some (0 : Int64)) else (if (x1 * sd) + x2 < 0 ∨ gn ≤ Int32.toNatClampNeg ((x1 * sd) + x2) then none else (some (f (Int32.toNatClampNeg ((x1 * sd) + x2))))))))
set_option maxHeartbeats 4000000 in
set_option maxRecDepth 100000 in
theorem B_X1_at_0 {p : Program} {l : Launch} {e : Env} {s : State} {m : MethodId} {args : Array Value} {below : List Frame} {meth : Method} {c : Code} {A : Nat → Prop} {dC : Nat → ClassId} {dI : Nat → Nat → Nat} {cI cJ cZ : ClassId} {aG aC : Nat} (C0 : q_C p s m args meth c (dC, dI) (q_T cI cJ cZ) A RX1 wsX1_at cX1_at 3 (some .long)) {x1 : Int32} {x2 : Int32} {sd : Int32} {gn : Nat} {f : (Nat → Int64)} {R : Int64} (hf : f_X1_at x1 x2 sd gn f = some R) : ∀ (H : Heap) (locs : List Loc) (ls : Array Slot), va_P (dC, dI) vwCl [(aG, .inr (1, [.int sd, .ref aC])), (aC, .inl (cJ, gn, .inr (.inl f)))] H → va_D A [(aG, .inr (1, [.int sd, .ref aC])), (aC, .inl (cJ, gn, .inr (.inl f)))] → va_S A s.heap H locs → lv_has ls 3 [(0, .ref aG), (1, .int x1), (2, .int x2)] → W p l e rmX1_at s m args below meth c H locs 0 0 (MQ below (qL (dC, dI) (q_T cI cJ cZ) [(aG, .inr (1, [.int sd, .ref aC])), (aC, .inl (cJ, gn, .inr (.inl f)))] R A) args s 0 0 A) (F0 m 0 ls []) := by
  obtain ⟨hx, hb, hml, hown, hts, hrt, hlk, hK, hX, hA⟩ := id C0
  intro H locs ls hP hD hS hl
  unfold f_X1_at at hf
  refine lv_aload_n hx hb dX1_at_0 rfl (lv_at hl 0 rfl) ?_
  refine lv_iload_n hx hb dX1_at_1 rfl (lv_at hl 1 rfl) ?_
  refine lv_iload_n hx hb dX1_at_2 rfl (lv_at hl 2 rfl) ?_
  obtain ⟨r1, hg2, hf⟩ := q_e1 hf
  refine q_endI (wc := [(aG, .inr (1, [.int sd, .ref aC])), (aC, .inl (cJ, gn, .inr (.inl f)))]) (wr := []) (w1 := [(aG, .inr (1, [.int sd, .ref aC])), (aC, .inl (cJ, gn, .inr (.inl f)))]) (rv := r1) C0 hP hD hS [0, 1] [] rfl rfl (by decide) (by decide) (q_runV (TT := TX1) (N := 2) (ci := 1) (q0 := 0) C0 (c_X1_holds (l := l) hg2) (cwV 2 hts gX1_at_X1_holds rfl rfl rfl (by decide +kernel) ⟨Nat.le_of_ble_eq_true rfl, Nat.le_of_ble_eq_true rfl⟩) hP hD hS [0, 1] rfl (by decide) rfl rfl rfl rfl hl.1 (Nat.le_of_ble_eq_true rfl) dX1_at_3) (fun H locs hP hD hS => ?_)
  have hP : va_P (dC, dI) vwCl [(aG, .inr (1, [.int sd, .ref aC])), (aC, .inl (cJ, gn, .inr (.inl f)))] H := hP
  have hD : va_D A [(aG, .inr (1, [.int sd, .ref aC])), (aC, .inl (cJ, gn, .inr (.inl f)))] := hD
  refine lv_if_eq (tgt := 25) hx hb dX1_at_6 (by decide) (fun hc3 => ?_) (fun hc3 => ?_)
  · have hf := q_if hf hc3
    refine lv_lconst (v := 0) hx hb dX1_at_25 (by decide) ?_
    obtain rfl := Option.some.inj hf
    exact q_retL C0 hP hD hS dX1_at_26
  · have hf := q_nif hf hc3
    refine lv_aload_n hx hb dX1_at_9 rfl (lv_at hl 0 rfl) ?_
    refine q_get (TT := TX1) C0 in_X1_at_X1 1 m_X1_at_f19 hP 0 rfl rfl (by decide) rfl rfl dX1_at_10 ?_
    refine lv_iload_n hx hb dX1_at_13 rfl (lv_at hl 1 rfl) ?_
    refine lv_aload_n hx hb dX1_at_14 rfl (lv_at hl 0 rfl) ?_
    refine q_get (TT := TX1) C0 in_X1_at_X1 0 m_X1_at_f13 hP 0 rfl rfl (by decide) rfl rfl dX1_at_15 ?_
    refine lv_imul hx hb dX1_at_18 ?_
    refine lv_iload_n hx hb dX1_at_19 rfl (lv_at hl 2 rfl) ?_
    refine lv_iadd hx hb dX1_at_20 ?_
    obtain ⟨hin4, hf⟩ := q_gd hf
    refine q_lald (v := f (Int32.toNatClampNeg ((x1 * sd) + x2))) C0 hP 1 1 rfl rfl hin4 rfl dX1_at_21 ?_
    refine lv_goto (tgt := 26) hx hb dX1_at_22 (by decide) ?_
    obtain rfl := Option.some.inj hf
    exact q_retL C0 hP hD hS dX1_at_26
set_option maxHeartbeats 4000000 in
set_option maxRecDepth 100000 in
theorem c_X1_at {l : Launch} {dC : Nat → ClassId} {dI : Nat → Nat → Nat} {cI cJ cZ : ClassId} {aG aC : Nat} {x1 : Int32} {x2 : Int32} {sd : Int32} {gn : Nat} {f : (Nat → Int64)} {R : Int64} (hf : f_X1_at x1 x2 sd gn f = some R) : q_M l yX1_at wsX1_at rmX1_at (dC, dI) (q_T cI cJ cZ) [.ref aG, .int x1, .int x2] [(aG, .inr (1, [.int sd, .ref aC])), (aC, .inl (cJ, gn, .inr (.inl f)))] (qL (dC, dI) (q_T cI cJ cZ) [(aG, .inr (1, [.int sd, .ref aC])), (aC, .inl (cJ, gn, .inr (.inl f)))] R) := by
  refine q_body (cc := cX1_at) (maxL := 3) (ret := (some .long)) (by decide) rfl (Nat.le_of_ble_eq_true rfl) ?_
  intro p e s m args below meth c A C0 ls hP hD hS hl
  have hl : lv_has ls 3 [(0, .ref aG), (1, .int x1), (2, .int x2)] := hl
  exact B_X1_at_0 C0 hf s.heap [] ls hP hD hS hl
/-! ## RungPlay$Grid.put -/
abbrev rmX1_put : Room := { frames := 1, cells := 0, slots := 0, locals := 22 }
theorem m_X1_put_f19 : Cond.fieldLink RX1 19 RX1 "cells" "[J" ∈ wsX1_put := by decide +kernel
theorem in_X1_put_X1 : ∀ w ∈ wsX10, w ∈ wsX1_put := by decide +kernel
theorem m_X1_put_f13 : Cond.fieldLink RX1 13 RX1 "side" "I" ∈ wsX1_put := by decide +kernel
noncomputable def f_X1_put (x1 : Int32) (x2 : Int32) (x3 : Int64) (sd : Int32) (gn : Nat) (f : (Nat → Int64)) : Option ((Nat → Int64)) :=
  (q_b1 (f_X1_holds x1 x2 sd gn f) (fun r1 => (if r1 = 0 then (some f) else (if (x1 * sd) + x2 < 0 ∨ gn ≤ Int32.toNatClampNeg ((x1 * sd) + x2) then none else (some (vp_updL f (Int32.toNatClampNeg ((x1 * sd) + x2)) x3))))))
set_option maxHeartbeats 4000000 in
set_option maxRecDepth 100000 in
theorem B_X1_put_0 {p : Program} {l : Launch} {e : Env} {s : State} {m : MethodId} {args : Array Value} {below : List Frame} {meth : Method} {c : Code} {A : Nat → Prop} {dC : Nat → ClassId} {dI : Nat → Nat → Nat} {cI cJ cZ : ClassId} {aG aC : Nat} (C0 : q_C p s m args meth c (dC, dI) (q_T cI cJ cZ) A RX1 wsX1_put cX1_put 5 none) {x1 : Int32} {x2 : Int32} {x3 : Int64} {sd : Int32} {gn : Nat} {f : (Nat → Int64)} {R : (Nat → Int64)} (hf : f_X1_put x1 x2 x3 sd gn f = some R) : ∀ (H : Heap) (locs : List Loc) (ls : Array Slot), va_P (dC, dI) vwCl [(aG, .inr (1, [.int sd, .ref aC])), (aC, .inl (cJ, gn, .inr (.inl f)))] H → va_D A [(aG, .inr (1, [.int sd, .ref aC])), (aC, .inl (cJ, gn, .inr (.inl f)))] → va_S A s.heap H locs → lv_has ls 5 [(0, .ref aG), (1, .int x1), (2, .int x2), (3, .long x3)] → W p l e rmX1_put s m args below meth c H locs 0 0 (MQ below (qV (dC, dI) (q_T cI cJ cZ) [(aG, .inr (1, [.int sd, .ref aC])), (aC, .inl (cJ, gn, .inr (.inl R)))] A) args s 0 0 A) (F0 m 0 ls []) := by
  obtain ⟨hx, hb, hml, hown, hts, hrt, hlk, hK, hX, hA⟩ := id C0
  intro H locs ls hP hD hS hl
  unfold f_X1_put at hf
  refine lv_aload_n hx hb dX1_put_0 rfl (lv_at hl 0 rfl) ?_
  refine lv_iload_n hx hb dX1_put_1 rfl (lv_at hl 1 rfl) ?_
  refine lv_iload_n hx hb dX1_put_2 rfl (lv_at hl 2 rfl) ?_
  obtain ⟨r1, hg2, hf⟩ := q_e1 hf
  refine q_endI (wc := [(aG, .inr (1, [.int sd, .ref aC])), (aC, .inl (cJ, gn, .inr (.inl f)))]) (wr := []) (w1 := [(aG, .inr (1, [.int sd, .ref aC])), (aC, .inl (cJ, gn, .inr (.inl f)))]) (rv := r1) C0 hP hD hS [0, 1] [] rfl rfl (by decide) (by decide) (q_runV (TT := TX1) (N := 2) (ci := 1) (q0 := 0) C0 (c_X1_holds (l := l) hg2) (cwV 2 hts gX1_put_X1_holds rfl rfl rfl (by decide +kernel) ⟨Nat.le_of_ble_eq_true rfl, Nat.le_of_ble_eq_true rfl⟩) hP hD hS [0, 1] rfl (by decide) rfl rfl rfl rfl hl.1 (Nat.le_of_ble_eq_true rfl) dX1_put_3) (fun H locs hP hD hS => ?_)
  have hP : va_P (dC, dI) vwCl [(aG, .inr (1, [.int sd, .ref aC])), (aC, .inl (cJ, gn, .inr (.inl f)))] H := hP
  have hD : va_D A [(aG, .inr (1, [.int sd, .ref aC])), (aC, .inl (cJ, gn, .inr (.inl f)))] := hD
  refine lv_if_eq (tgt := 23) hx hb dX1_put_6 (by decide) (fun hc3 => ?_) (fun hc3 => ?_)
  · have hf := q_if hf hc3
    obtain rfl := Option.some.inj hf
    exact q_retV C0 hP hD hS dX1_put_23
  · have hf := q_nif hf hc3
    refine lv_aload_n hx hb dX1_put_9 rfl (lv_at hl 0 rfl) ?_
    refine q_get (TT := TX1) C0 in_X1_put_X1 1 m_X1_put_f19 hP 0 rfl rfl (by decide) rfl rfl dX1_put_10 ?_
    refine lv_iload_n hx hb dX1_put_13 rfl (lv_at hl 1 rfl) ?_
    refine lv_aload_n hx hb dX1_put_14 rfl (lv_at hl 0 rfl) ?_
    refine q_get (TT := TX1) C0 in_X1_put_X1 0 m_X1_put_f13 hP 0 rfl rfl (by decide) rfl rfl dX1_put_15 ?_
    refine lv_imul hx hb dX1_put_18 ?_
    refine lv_iload_n hx hb dX1_put_19 rfl (lv_at hl 2 rfl) ?_
    refine lv_iadd hx hb dX1_put_20 ?_
    refine lv_lload_n hx hb dX1_put_21 rfl (lv_at hl 3 rfl) ?_
    obtain ⟨hin4, hf⟩ := q_gd hf
    refine q_last (g := vp_updL f (Int32.toNatClampNeg ((x1 * sd) + x2)) x3) C0 hP hD hS 1 1 rfl rfl hin4 rfl dX1_put_22 (fun H locs hP hD hS => ?_)
    have hP : va_P (dC, dI) vwCl [(aG, .inr (1, [.int sd, .ref aC])), (aC, .inl (cJ, gn, .inr (.inl (vp_updL f (Int32.toNatClampNeg ((x1 * sd) + x2)) x3))))] H := hP
    have hD : va_D A [(aG, .inr (1, [.int sd, .ref aC])), (aC, .inl (cJ, gn, .inr (.inl (vp_updL f (Int32.toNatClampNeg ((x1 * sd) + x2)) x3))))] := hD
    obtain rfl := Option.some.inj hf
    exact q_retV C0 hP hD hS dX1_put_23
set_option maxHeartbeats 4000000 in
set_option maxRecDepth 100000 in
theorem c_X1_put {l : Launch} {dC : Nat → ClassId} {dI : Nat → Nat → Nat} {cI cJ cZ : ClassId} {aG aC : Nat} {x1 : Int32} {x2 : Int32} {x3 : Int64} {sd : Int32} {gn : Nat} {f : (Nat → Int64)} {R : (Nat → Int64)} (hf : f_X1_put x1 x2 x3 sd gn f = some R) : q_M l yX1_put wsX1_put rmX1_put (dC, dI) (q_T cI cJ cZ) [.ref aG, .int x1, .int x2, .long x3] [(aG, .inr (1, [.int sd, .ref aC])), (aC, .inl (cJ, gn, .inr (.inl f)))] (qV (dC, dI) (q_T cI cJ cZ) [(aG, .inr (1, [.int sd, .ref aC])), (aC, .inl (cJ, gn, .inr (.inl R)))]) := by
  refine q_body (cc := cX1_put) (maxL := 5) (ret := none) (by decide) rfl (Nat.le_of_ble_eq_true rfl) ?_
  intro p e s m args below meth c A C0 ls hP hD hS hl
  have hl : lv_has ls 5 [(0, .ref aG), (1, .int x1), (2, .int x2), (3, .long x3)] := hl
  exact B_X1_put_0 C0 hf s.heap [] ls hP hD hS hl
