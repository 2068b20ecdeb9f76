/-! ## RungPlay.within -/
abbrev rmX6_within : Room := { frames := 0, cells := 0, slots := 0, locals := 0 }
def b_X6_within_14  : Option (Int32) :=
  (some 0)
def f_X6_within (x0 : Int32) (x1 : Int32) (x2 : Int32) : Option (Int32) :=
  (if x0 < x1 then (b_X6_within_14 ) else (if x2 < x0 then (b_X6_within_14 ) else (some 1)))
set_option maxHeartbeats 4000000 in
set_option maxRecDepth 100000 in
theorem B_X6_within_14 {p : Program} {l : Launch} {e : Env} {s : State} {m : MethodId} {args : Array Value} {below : List Frame} {meth : Method} {c : Code} {A : Nat → Prop} {dC : Nat → ClassId} {dI : Nat → Nat → Nat} {cI cJ cZ : ClassId} (C0 : q_C p s m args meth c (dC, dI) (q_T cI cJ cZ) A RX6 wsX6_within cX6_within 3 (some .boolean))  {R : Int32} (hf : b_X6_within_14  = some R) : ∀ (H : Heap) (locs : List Loc) (ls : Array Slot), va_P (dC, dI) vwCl [] H → va_D A [] → va_S A s.heap H locs → lv_has ls 3 [] → W p l e rmX6_within s m args below meth c H locs 0 0 (MQ below (qI (dC, dI) (q_T cI cJ cZ) [] R A) args s 0 0 A) (F0 m 14 ls []) := by
  obtain ⟨hx, hb, hml, hown, hts, hrt, hlk, hK, hX, hA⟩ := id C0
  intro H locs ls hP hD hS hl
  refine lv_iconst (v := 0) hx hb dX6_within_14 (by decide) ?_
  obtain rfl := Option.some.inj hf
  exact q_retZ C0 (by rfl) hP hD hS dX6_within_15
set_option maxHeartbeats 4000000 in
set_option maxRecDepth 100000 in
theorem B_X6_within_0 {p : Program} {l : Launch} {e : Env} {s : State} {m : MethodId} {args : Array Value} {below : List Frame} {meth : Method} {c : Code} {A : Nat → Prop} {dC : Nat → ClassId} {dI : Nat → Nat → Nat} {cI cJ cZ : ClassId} (C0 : q_C p s m args meth c (dC, dI) (q_T cI cJ cZ) A RX6 wsX6_within cX6_within 3 (some .boolean)) {x0 : Int32} {x1 : Int32} {x2 : Int32} {R : Int32} (hf : f_X6_within x0 x1 x2 = some R) : ∀ (H : Heap) (locs : List Loc) (ls : Array Slot), va_P (dC, dI) vwCl [] H → va_D A [] → va_S A s.heap H locs → lv_has ls 3 [(0, .int x0), (1, .int x1), (2, .int x2)] → W p l e rmX6_within s m args below meth c H locs 0 0 (MQ below (qI (dC, dI) (q_T cI cJ cZ) [] R A) args s 0 0 A) (F0 m 0 ls []) := by
  obtain ⟨hx, hb, hml, hown, hts, hrt, hlk, hK, hX, hA⟩ := id C0
  intro H locs ls hP hD hS hl
  refine lv_iload_n hx hb dX6_within_0 rfl (lv_at hl 1 rfl) ?_
  refine lv_iload_n hx hb dX6_within_1 rfl (lv_at hl 0 rfl) ?_
  refine lv_icmp_gt (tgt := 14) hx hb dX6_within_2 (by decide) (fun hc1 => ?_) (fun hc1 => ?_)
  · have hf := q_if hf hc1
    exact B_X6_within_14 C0 hf H locs ls hP hD hS (lv_sub hl [] rfl)
  · have hf := q_nif hf hc1
    refine lv_iload_n hx hb dX6_within_5 rfl (lv_at hl 0 rfl) ?_
    refine lv_iload_n hx hb dX6_within_6 rfl (lv_at hl 2 rfl) ?_
    refine lv_icmp_gt (tgt := 14) hx hb dX6_within_7 (by decide) (fun hc2 => ?_) (fun hc2 => ?_)
    · have hf := q_if hf hc2
      exact B_X6_within_14 C0 hf H locs ls hP hD hS (lv_sub hl [] rfl)
    · have hf := q_nif hf hc2
      refine lv_iconst (v := 1) hx hb dX6_within_10 (by decide) ?_
      refine lv_goto (tgt := 15) hx hb dX6_within_11 (by decide) ?_
      obtain rfl := Option.some.inj hf
      exact q_retZ C0 (by rfl) hP hD hS dX6_within_15
set_option maxHeartbeats 4000000 in
set_option maxRecDepth 100000 in
theorem c_X6_within {l : Launch} {dC : Nat → ClassId} {dI : Nat → Nat → Nat} {cI cJ cZ : ClassId} {x0 : Int32} {x1 : Int32} {x2 : Int32} {R : Int32} (hf : f_X6_within x0 x1 x2 = some R) : q_M l yX6_within wsX6_within rmX6_within (dC, dI) (q_T cI cJ cZ) [.int x0, .int x1, .int x2] [] (qI (dC, dI) (q_T cI cJ cZ) [] R) := by
  refine q_body (cc := cX6_within) (maxL := 3) (ret := (some .boolean)) (by decide) rfl (Nat.le_of_ble_eq_true rfl) ?_
  intro p e s m args below meth c A C0 ls hP hD hS hl
  have hl : lv_has ls 3 [(0, .int x0), (1, .int x1), (2, .int x2)] := hl
  exact B_X6_within_0 C0 hf s.heap [] ls hP hD hS hl

/-! ## RungPlay$Rules.leader -/
abbrev rmX5_leader : Room := { frames := 0, cells := 0, slots := 0, locals := 0 }
def f_X5_leader (x0 : Int32) (x1 : Int32) : Option (Int32) :=
  (if x0 ≤ x1 then (if x1 ≤ x0 then (some 0) else (some 2)) else (some 1))
set_option maxHeartbeats 4000000 in
set_option maxRecDepth 100000 in
theorem B_X5_leader_0 {p : Program} {l : Launch} {e : Env} {s : State} {m : MethodId} {args : Array Value} {below : List Frame} {meth : Method} {c : Code} {A : Nat → Prop} {dC : Nat → ClassId} {dI : Nat → Nat → Nat} {cI cJ cZ : ClassId} (C0 : q_C p s m args meth c (dC, dI) (q_T cI cJ cZ) A RX5 wsX5_leader cX5_leader 2 (some .int)) {x0 : Int32} {x1 : Int32} {R : Int32} (hf : f_X5_leader x0 x1 = some R) : ∀ (H : Heap) (locs : List Loc) (ls : Array Slot), va_P (dC, dI) vwCl [] H → va_D A [] → va_S A s.heap H locs → lv_has ls 2 [(0, .int x0), (1, .int x1)] → W p l e rmX5_leader s m args below meth c H locs 0 0 (MQ below (qI (dC, dI) (q_T cI cJ cZ) [] R A) args s 0 0 A) (F0 m 0 ls []) := by
  obtain ⟨hx, hb, hml, hown, hts, hrt, hlk, hK, hX, hA⟩ := id C0
  intro H locs ls hP hD hS hl
  refine lv_iload_n hx hb dX5_leader_0 rfl (lv_at hl 0 rfl) ?_
  refine lv_iload_n hx hb dX5_leader_1 rfl (lv_at hl 1 rfl) ?_
  refine lv_icmp_le (tgt := 9) hx hb dX5_leader_2 (by decide) (fun hc1 => ?_) (fun hc1 => ?_)
  · have hf := q_if hf hc1
    refine lv_iload_n hx hb dX5_leader_9 rfl (lv_at hl 0 rfl) ?_
    refine lv_iload_n hx hb dX5_leader_10 rfl (lv_at hl 1 rfl) ?_
    refine lv_icmp_ge (tgt := 18) hx hb dX5_leader_11 (by decide) (fun hc2 => ?_) (fun hc2 => ?_)
    · have hf := q_if hf hc2
      refine lv_iconst (v := 0) hx hb dX5_leader_18 (by decide) ?_
      obtain rfl := Option.some.inj hf
      exact q_retI C0 hP hD hS dX5_leader_19
    · have hf := q_nif hf hc2
      refine lv_iconst (v := 2) hx hb dX5_leader_14 (by decide) ?_
      refine lv_goto (tgt := 19) hx hb dX5_leader_15 (by decide) ?_
      obtain rfl := Option.some.inj hf
      exact q_retI C0 hP hD hS dX5_leader_19
  · have hf := q_nif hf hc1
    refine lv_iconst (v := 1) hx hb dX5_leader_5 (by decide) ?_
    refine lv_goto (tgt := 19) hx hb dX5_leader_6 (by decide) ?_
    obtain rfl := Option.some.inj hf
    exact q_retI C0 hP hD hS dX5_leader_19
set_option maxHeartbeats 4000000 in
set_option maxRecDepth 100000 in
theorem c_X5_leader {l : Launch} {dC : Nat → ClassId} {dI : Nat → Nat → Nat} {cI cJ cZ : ClassId} {x0 : Int32} {x1 : Int32} {R : Int32} (hf : f_X5_leader x0 x1 = some R) : q_M l yX5_leader wsX5_leader rmX5_leader (dC, dI) (q_T cI cJ cZ) [.int x0, .int x1] [] (qI (dC, dI) (q_T cI cJ cZ) [] R) := by
  refine q_body (cc := cX5_leader) (maxL := 2) (ret := (some .int)) (by decide) rfl (Nat.le_of_ble_eq_true rfl) ?_
  intro p e s m args below meth c A C0 ls hP hD hS hl
  have hl : lv_has ls 2 [(0, .int x0), (1, .int x1)] := hl
  exact B_X5_leader_0 C0 hf s.heap [] ls hP hD hS hl

/-! ## RungPlay$Rules.tenthsOfA -/
abbrev rmX5_tenthsOfA : Room := { frames := 0, cells := 0, slots := 0, locals := 0 }
theorem m_X5_tenthsOfA_f15 : Cond.fieldLink RX5 15 RX5 "tenthsOnServeOfB" "I" ∈ wsX5_tenthsOfA := by decide +kernel
theorem in_X5_tenthsOfA_X5 : ∀ w ∈ wsX50, w ∈ wsX5_tenthsOfA := by decide +kernel
theorem m_X5_tenthsOfA_f9 : Cond.fieldLink RX5 9 RX5 "tenthsOnServeOfA" "I" ∈ wsX5_tenthsOfA := by decide +kernel
def f_X5_tenthsOfA (x1 : Int32) (r : (Nat → Int32)) : Option (Int32) :=
  (if x1 = 0 then (some (r 0)) else (some (r 1)))
set_option maxHeartbeats 4000000 in
set_option maxRecDepth 100000 in
theorem B_X5_tenthsOfA_0 {p : Program} {l : Launch} {e : Env} {s : State} {m : MethodId} {args : Array Value} {below : List Frame} {meth : Method} {c : Code} {A : Nat → Prop} {dC : Nat → ClassId} {dI : Nat → Nat → Nat} {cI cJ cZ : ClassId} {aR : Nat} (C0 : q_C p s m args meth c (dC, dI) (q_T cI cJ cZ) A RX5 wsX5_tenthsOfA cX5_tenthsOfA 2 (some .int)) {x1 : Int32} {r : (Nat → Int32)} {R : Int32} (hf : f_X5_tenthsOfA x1 r = some R) : ∀ (H : Heap) (locs : List Loc) (ls : Array Slot), va_P (dC, dI) vwCl [(aR, .inr (5, [.int (r 0), .int (r 1), .int (r 2), .int (r 3), .int (r 4), .int (r 5), .int (r 6)]))] H → va_D A [(aR, .inr (5, [.int (r 0), .int (r 1), .int (r 2), .int (r 3), .int (r 4), .int (r 5), .int (r 6)]))] → va_S A s.heap H locs → lv_has ls 2 [(0, .ref aR), (1, .int x1)] → W p l e rmX5_tenthsOfA s m args below meth c H locs 0 0 (MQ below (qI (dC, dI) (q_T cI cJ cZ) [(aR, .inr (5, [.int (r 0), .int (r 1), .int (r 2), .int (r 3), .int (r 4), .int (r 5), .int (r 6)]))] R A) args s 0 0 A) (F0 m 0 ls []) := by
  obtain ⟨hx, hb, hml, hown, hts, hrt, hlk, hK, hX, hA⟩ := id C0
  intro H locs ls hP hD hS hl
  refine lv_iload_n hx hb dX5_tenthsOfA_0 rfl (lv_at hl 1 rfl) ?_
  refine lv_if_ne (tgt := 11) hx hb dX5_tenthsOfA_1 (by decide) (fun hc1 => ?_) (fun hc1 => ?_)
  · have hf := q_nif hf hc1
    refine lv_aload_n hx hb dX5_tenthsOfA_11 rfl (lv_at hl 0 rfl) ?_
    refine q_get (TT := TX5) C0 in_X5_tenthsOfA_X5 1 m_X5_tenthsOfA_f15 hP 0 rfl rfl (by decide) rfl rfl dX5_tenthsOfA_12 ?_
    obtain rfl := Option.some.inj hf
    exact q_retI C0 hP hD hS dX5_tenthsOfA_15
  · have hf := q_if hf hc1
    refine lv_aload_n hx hb dX5_tenthsOfA_4 rfl (lv_at hl 0 rfl) ?_
    refine q_get (TT := TX5) C0 in_X5_tenthsOfA_X5 0 m_X5_tenthsOfA_f9 hP 0 rfl rfl (by decide) rfl rfl dX5_tenthsOfA_5 ?_
    refine lv_goto (tgt := 15) hx hb dX5_tenthsOfA_8 (by decide) ?_
    obtain rfl := Option.some.inj hf
    exact q_retI C0 hP hD hS dX5_tenthsOfA_15
set_option maxHeartbeats 4000000 in
set_option maxRecDepth 100000 in
theorem c_X5_tenthsOfA {l : Launch} {dC : Nat → ClassId} {dI : Nat → Nat → Nat} {cI cJ cZ : ClassId} {aR : Nat} {x1 : Int32} {r : (Nat → Int32)} {R : Int32} (hf : f_X5_tenthsOfA x1 r = some R) : q_M l yX5_tenthsOfA wsX5_tenthsOfA rmX5_tenthsOfA (dC, dI) (q_T cI cJ cZ) [.ref aR, .int x1] [(aR, .inr (5, [.int (r 0), .int (r 1), .int (r 2), .int (r 3), .int (r 4), .int (r 5), .int (r 6)]))] (qI (dC, dI) (q_T cI cJ cZ) [(aR, .inr (5, [.int (r 0), .int (r 1), .int (r 2), .int (r 3), .int (r 4), .int (r 5), .int (r 6)]))] R) := by
  refine q_body (cc := cX5_tenthsOfA) (maxL := 2) (ret := (some .int)) (by decide) rfl (Nat.le_of_ble_eq_true rfl) ?_
  intro p e s m args below meth c A C0 ls hP hD hS hl
  have hl : lv_has ls 2 [(0, .ref aR), (1, .int x1)] := hl
  exact B_X5_tenthsOfA_0 C0 hf s.heap [] ls hP hD hS hl

/-! ## RungPlay$Rules.headStartOfA -/
abbrev rmX5_headStartOfA : Room := { frames := 0, cells := 0, slots := 0, locals := 0 }
theorem m_X5_headStartOfA_f27 : Cond.fieldLink RX5 27 RX5 "headStart" "I" ∈ wsX5_headStartOfA := by decide +kernel
theorem in_X5_headStartOfA_X5 : ∀ w ∈ wsX50, w ∈ wsX5_headStartOfA := by decide +kernel
def f_X5_headStartOfA (x1 : Int32) (r : (Nat → Int32)) : Option (Int32) :=
  (if x1 = 0 then (some (r 5)) else (some 0))
set_option maxHeartbeats 4000000 in
set_option maxRecDepth 100000 in
theorem B_X5_headStartOfA_0 {p : Program} {l : Launch} {e : Env} {s : State} {m : MethodId} {args : Array Value} {below : List Frame} {meth : Method} {c : Code} {A : Nat → Prop} {dC : Nat → ClassId} {dI : Nat → Nat → Nat} {cI cJ cZ : ClassId} {aR : Nat} (C0 : q_C p s m args meth c (dC, dI) (q_T cI cJ cZ) A RX5 wsX5_headStartOfA cX5_headStartOfA 2 (some .int)) {x1 : Int32} {r : (Nat → Int32)} {R : Int32} (hf : f_X5_headStartOfA x1 r = some R) : ∀ (H : Heap) (locs : List Loc) (ls : Array Slot), va_P (dC, dI) vwCl [(aR, .inr (5, [.int (r 0), .int (r 1), .int (r 2), .int (r 3), .int (r 4), .int (r 5), .int (r 6)]))] H → va_D A [(aR, .inr (5, [.int (r 0), .int (r 1), .int (r 2), .int (r 3), .int (r 4), .int (r 5), .int (r 6)]))] → va_S A s.heap H locs → lv_has ls 2 [(0, .ref aR), (1, .int x1)] → W p l e rmX5_headStartOfA s m args below meth c H locs 0 0 (MQ below (qI (dC, dI) (q_T cI cJ cZ) [(aR, .inr (5, [.int (r 0), .int (r 1), .int (r 2), .int (r 3), .int (r 4), .int (r 5), .int (r 6)]))] R A) args s 0 0 A) (F0 m 0 ls []) := by
  obtain ⟨hx, hb, hml, hown, hts, hrt, hlk, hK, hX, hA⟩ := id C0
  intro H locs ls hP hD hS hl
  refine lv_iload_n hx hb dX5_headStartOfA_0 rfl (lv_at hl 1 rfl) ?_
  refine lv_if_ne (tgt := 11) hx hb dX5_headStartOfA_1 (by decide) (fun hc1 => ?_) (fun hc1 => ?_)
  · have hf := q_nif hf hc1
    refine lv_iconst (v := 0) hx hb dX5_headStartOfA_11 (by decide) ?_
    obtain rfl := Option.some.inj hf
    exact q_retI C0 hP hD hS dX5_headStartOfA_12
  · have hf := q_if hf hc1
    refine lv_aload_n hx hb dX5_headStartOfA_4 rfl (lv_at hl 0 rfl) ?_
    refine q_get (TT := TX5) C0 in_X5_headStartOfA_X5 5 m_X5_headStartOfA_f27 hP 0 rfl rfl (by decide) rfl rfl dX5_headStartOfA_5 ?_
    refine lv_goto (tgt := 12) hx hb dX5_headStartOfA_8 (by decide) ?_
    obtain rfl := Option.some.inj hf
    exact q_retI C0 hP hD hS dX5_headStartOfA_12
set_option maxHeartbeats 4000000 in
set_option maxRecDepth 100000 in
theorem c_X5_headStartOfA {l : Launch} {dC : Nat → ClassId} {dI : Nat → Nat → Nat} {cI cJ cZ : ClassId} {aR : Nat} {x1 : Int32} {r : (Nat → Int32)} {R : Int32} (hf : f_X5_headStartOfA x1 r = some R) : q_M l yX5_headStartOfA wsX5_headStartOfA rmX5_headStartOfA (dC, dI) (q_T cI cJ cZ) [.ref aR, .int x1] [(aR, .inr (5, [.int (r 0), .int (r 1), .int (r 2), .int (r 3), .int (r 4), .int (r 5), .int (r 6)]))] (qI (dC, dI) (q_T cI cJ cZ) [(aR, .inr (5, [.int (r 0), .int (r 1), .int (r 2), .int (r 3), .int (r 4), .int (r 5), .int (r 6)]))] R) := by
  refine q_body (cc := cX5_headStartOfA) (maxL := 2) (ret := (some .int)) (by decide) rfl (Nat.le_of_ble_eq_true rfl) ?_
  intro p e s m args below meth c A C0 ls hP hD hS hl
  have hl : lv_has ls 2 [(0, .ref aR), (1, .int x1)] := hl
  exact B_X5_headStartOfA_0 C0 hf s.heap [] ls hP hD hS hl

/-! ## RungPlay$Rules.told -/
abbrev rmX5_told : Room := { frames := 0, cells := 0, slots := 0, locals := 0 }
theorem m_X5_told_f9 : Cond.fieldLink RX5 9 RX5 "tenthsOnServeOfA" "I" ∈ wsX5_told := by decide +kernel
theorem in_X5_told_X5 : ∀ w ∈ wsX50, w ∈ wsX5_told := by decide +kernel
theorem m_X5_told_f15 : Cond.fieldLink RX5 15 RX5 "tenthsOnServeOfB" "I" ∈ wsX5_told := by decide +kernel
theorem m_X5_told_f18 : Cond.fieldLink RX5 18 RX5 "toPoints" "I" ∈ wsX5_told := by decide +kernel
theorem m_X5_told_f21 : Cond.fieldLink RX5 21 RX5 "toGames" "I" ∈ wsX5_told := by decide +kernel
theorem m_X5_told_f24 : Cond.fieldLink RX5 24 RX5 "toSets" "I" ∈ wsX5_told := by decide +kernel
theorem m_X5_told_f27 : Cond.fieldLink RX5 27 RX5 "headStart" "I" ∈ wsX5_told := by decide +kernel
theorem m_X5_told_f30 : Cond.fieldLink RX5 30 RX5 "kind" "I" ∈ wsX5_told := by decide +kernel
def f_X5_told (x1 : Int32) (r : (Nat → Int32)) : Option (Int32) :=
  (if x1 = 0 then (some (r 0)) else (if x1 = 1 then (some (r 1)) else (if x1 = 2 then (some (r 2)) else (if x1 = 3 then (some (r 3)) else (if x1 = 4 then (some (r 4)) else (if x1 = 5 then (some (r 5)) else (if x1 = 6 then (some (r 6)) else (some (-1)))))))))
set_option maxHeartbeats 4000000 in
set_option maxRecDepth 100000 in
theorem B_X5_told_0 {p : Program} {l : Launch} {e : Env} {s : State} {m : MethodId} {args : Array Value} {below : List Frame} {meth : Method} {c : Code} {A : Nat → Prop} {dC : Nat → ClassId} {dI : Nat → Nat → Nat} {cI cJ cZ : ClassId} {aR : Nat} (C0 : q_C p s m args meth c (dC, dI) (q_T cI cJ cZ) A RX5 wsX5_told cX5_told 2 (some .int)) {x1 : Int32} {r : (Nat → Int32)} {R : Int32} (hf : f_X5_told x1 r = some R) : ∀ (H : Heap) (locs : List Loc) (ls : Array Slot), va_P (dC, dI) vwCl [(aR, .inr (5, [.int (r 0), .int (r 1), .int (r 2), .int (r 3), .int (r 4), .int (r 5), .int (r 6)]))] H → va_D A [(aR, .inr (5, [.int (r 0), .int (r 1), .int (r 2), .int (r 3), .int (r 4), .int (r 5), .int (r 6)]))] → va_S A s.heap H locs → lv_has ls 2 [(0, .ref aR), (1, .int x1)] → W p l e rmX5_told s m args below meth c H locs 0 0 (MQ below (qI (dC, dI) (q_T cI cJ cZ) [(aR, .inr (5, [.int (r 0), .int (r 1), .int (r 2), .int (r 3), .int (r 4), .int (r 5), .int (r 6)]))] R A) args s 0 0 A) (F0 m 0 ls []) := by
  obtain ⟨hx, hb, hml, hown, hts, hrt, hlk, hK, hX, hA⟩ := id C0
  intro H locs ls hP hD hS hl
  refine lv_iload_n hx hb dX5_told_0 rfl (lv_at hl 1 rfl) ?_
  by_cases hs1 : x1 = 0
  · have hf := q_if hf hs1
    refine lv_tableIn (off := 43) (tgt := 44) hx hb dX5_told_1 (by rw [hs1]; decide) (by rw [hs1]; decide) (by rw [hs1]; rfl) (by decide) ?_
    refine lv_aload_n hx hb dX5_told_44 rfl (lv_at hl 0 rfl) ?_
    refine q_get (TT := TX5) C0 in_X5_told_X5 0 m_X5_told_f9 hP 0 rfl rfl (by decide) rfl rfl dX5_told_45 ?_
    obtain rfl := Option.some.inj hf
    exact q_retI C0 hP hD hS dX5_told_48
  have hf := q_nif hf hs1
  by_cases hs2 : x1 = 1
  · have hf := q_if hf hs2
    refine lv_tableIn (off := 48) (tgt := 49) hx hb dX5_told_1 (by rw [hs2]; decide) (by rw [hs2]; decide) (by rw [hs2]; rfl) (by decide) ?_
    refine lv_aload_n hx hb dX5_told_49 rfl (lv_at hl 0 rfl) ?_
    refine q_get (TT := TX5) C0 in_X5_told_X5 1 m_X5_told_f15 hP 0 rfl rfl (by decide) rfl rfl dX5_told_50 ?_
    obtain rfl := Option.some.inj hf
    exact q_retI C0 hP hD hS dX5_told_53
  have hf := q_nif hf hs2
  by_cases hs3 : x1 = 2
  · have hf := q_if hf hs3
    refine lv_tableIn (off := 53) (tgt := 54) hx hb dX5_told_1 (by rw [hs3]; decide) (by rw [hs3]; decide) (by rw [hs3]; rfl) (by decide) ?_
    refine lv_aload_n hx hb dX5_told_54 rfl (lv_at hl 0 rfl) ?_
    refine q_get (TT := TX5) C0 in_X5_told_X5 2 m_X5_told_f18 hP 0 rfl rfl (by decide) rfl rfl dX5_told_55 ?_
    obtain rfl := Option.some.inj hf
    exact q_retI C0 hP hD hS dX5_told_58
  have hf := q_nif hf hs3
  by_cases hs4 : x1 = 3
  · have hf := q_if hf hs4
    refine lv_tableIn (off := 58) (tgt := 59) hx hb dX5_told_1 (by rw [hs4]; decide) (by rw [hs4]; decide) (by rw [hs4]; rfl) (by decide) ?_
    refine lv_aload_n hx hb dX5_told_59 rfl (lv_at hl 0 rfl) ?_
    refine q_get (TT := TX5) C0 in_X5_told_X5 3 m_X5_told_f21 hP 0 rfl rfl (by decide) rfl rfl dX5_told_60 ?_
    obtain rfl := Option.some.inj hf
    exact q_retI C0 hP hD hS dX5_told_63
  have hf := q_nif hf hs4
  by_cases hs5 : x1 = 4
  · have hf := q_if hf hs5
    refine lv_tableIn (off := 63) (tgt := 64) hx hb dX5_told_1 (by rw [hs5]; decide) (by rw [hs5]; decide) (by rw [hs5]; rfl) (by decide) ?_
    refine lv_aload_n hx hb dX5_told_64 rfl (lv_at hl 0 rfl) ?_
    refine q_get (TT := TX5) C0 in_X5_told_X5 4 m_X5_told_f24 hP 0 rfl rfl (by decide) rfl rfl dX5_told_65 ?_
    obtain rfl := Option.some.inj hf
    exact q_retI C0 hP hD hS dX5_told_68
  have hf := q_nif hf hs5
  by_cases hs6 : x1 = 5
  · have hf := q_if hf hs6
    refine lv_tableIn (off := 68) (tgt := 69) hx hb dX5_told_1 (by rw [hs6]; decide) (by rw [hs6]; decide) (by rw [hs6]; rfl) (by decide) ?_
    refine lv_aload_n hx hb dX5_told_69 rfl (lv_at hl 0 rfl) ?_
    refine q_get (TT := TX5) C0 in_X5_told_X5 5 m_X5_told_f27 hP 0 rfl rfl (by decide) rfl rfl dX5_told_70 ?_
    obtain rfl := Option.some.inj hf
    exact q_retI C0 hP hD hS dX5_told_73
  have hf := q_nif hf hs6
  by_cases hs7 : x1 = 6
  · have hf := q_if hf hs7
    refine lv_tableIn (off := 73) (tgt := 74) hx hb dX5_told_1 (by rw [hs7]; decide) (by rw [hs7]; decide) (by rw [hs7]; rfl) (by decide) ?_
    refine lv_aload_n hx hb dX5_told_74 rfl (lv_at hl 0 rfl) ?_
    refine q_get (TT := TX5) C0 in_X5_told_X5 6 m_X5_told_f30 hP 0 rfl rfl (by decide) rfl rfl dX5_told_75 ?_
    obtain rfl := Option.some.inj hf
    exact q_retI C0 hP hD hS dX5_told_78
  have hf := q_nif hf hs7
  refine lv_tableOut (tgt := 79) hx hb dX5_told_1 (by have n0 := lv_neT (a := 0) hs1 rfl; have n1 := lv_neT (a := 1) hs2 rfl; have n2 := lv_neT (a := 2) hs3 rfl; have n3 := lv_neT (a := 3) hs4 rfl; have n4 := lv_neT (a := 4) hs5 rfl; have n5 := lv_neT (a := 5) hs6 rfl; have n6 := lv_neT (a := 6) hs7 rfl; omega) (by decide) ?_
  refine lv_iconst (v := (-1)) hx hb dX5_told_79 (by decide) ?_
  obtain rfl := Option.some.inj hf
  exact q_retI C0 hP hD hS dX5_told_80
set_option maxHeartbeats 4000000 in
set_option maxRecDepth 100000 in
theorem c_X5_told {l : Launch} {dC : Nat → ClassId} {dI : Nat → Nat → Nat} {cI cJ cZ : ClassId} {aR : Nat} {x1 : Int32} {r : (Nat → Int32)} {R : Int32} (hf : f_X5_told x1 r = some R) : q_M l yX5_told wsX5_told rmX5_told (dC, dI) (q_T cI cJ cZ) [.ref aR, .int x1] [(aR, .inr (5, [.int (r 0), .int (r 1), .int (r 2), .int (r 3), .int (r 4), .int (r 5), .int (r 6)]))] (qI (dC, dI) (q_T cI cJ cZ) [(aR, .inr (5, [.int (r 0), .int (r 1), .int (r 2), .int (r 3), .int (r 4), .int (r 5), .int (r 6)]))] R) := by
  refine q_body (cc := cX5_told) (maxL := 2) (ret := (some .int)) (by decide) rfl (Nat.le_of_ble_eq_true rfl) ?_
  intro p e s m args below meth c A C0 ls hP hD hS hl
  have hl : lv_has ls 2 [(0, .ref aR), (1, .int x1)] := hl
  exact B_X5_told_0 C0 hf s.heap [] ls hP hD hS hl

/-! ## RungPlay$Rules.tell -/
abbrev rmX5_tell : Room := { frames := 0, cells := 0, slots := 0, locals := 0 }
theorem m_X5_tell_f9 : Cond.fieldLink RX5 9 RX5 "tenthsOnServeOfA" "I" ∈ wsX5_tell := by decide +kernel
theorem in_X5_tell_X5 : ∀ w ∈ wsX50, w ∈ wsX5_tell := by decide +kernel
theorem m_X5_tell_f15 : Cond.fieldLink RX5 15 RX5 "tenthsOnServeOfB" "I" ∈ wsX5_tell := by decide +kernel
theorem m_X5_tell_f18 : Cond.fieldLink RX5 18 RX5 "toPoints" "I" ∈ wsX5_tell := by decide +kernel
theorem m_X5_tell_f27 : Cond.fieldLink RX5 27 RX5 "headStart" "I" ∈ wsX5_tell := by decide +kernel
theorem m_X5_tell_f21 : Cond.fieldLink RX5 21 RX5 "toGames" "I" ∈ wsX5_tell := by decide +kernel
theorem m_X5_tell_f24 : Cond.fieldLink RX5 24 RX5 "toSets" "I" ∈ wsX5_tell := by decide +kernel
theorem m_X5_tell_f30 : Cond.fieldLink RX5 30 RX5 "kind" "I" ∈ wsX5_tell := by decide +kernel
def f_X5_tell (x1 : Int32) (x2 : Int32) (r : (Nat → Int32)) : Option ((Nat → Int32)) :=
  (if x1 = 0 then (some (mk7 x2 (r 1) (r 2) (r 3) (r 4) (r 5) (r 6))) else (if x1 = 1 then (some (mk7 (r 0) x2 (r 2) (r 3) (r 4) (r 5) (r 6))) else (if x1 = 2 then (some (mk7 (r 0) (r 1) x2 (r 3) (r 4) 0 (r 6))) else (if x1 = 3 then (some (mk7 (r 0) (r 1) (r 2) x2 (r 4) (r 5) (r 6))) else (if x1 = 4 then (some (mk7 (r 0) (r 1) (r 2) (r 3) x2 (r 5) (r 6))) else (if x1 = 5 then (some (mk7 (r 0) (r 1) (r 2) (r 3) (r 4) x2 (r 6))) else (if x1 = 6 then (some (mk7 (r 0) (r 1) (r 2) (r 3) (r 4) (r 5) x2)) else (some r))))))))
set_option maxHeartbeats 4000000 in
set_option maxRecDepth 100000 in
theorem B_X5_tell_0 {p : Program} {l : Launch} {e : Env} {s : State} {m : MethodId} {args : Array Value} {below : List Frame} {meth : Method} {c : Code} {A : Nat → Prop} {dC : Nat → ClassId} {dI : Nat → Nat → Nat} {cI cJ cZ : ClassId} {aR : Nat} (C0 : q_C p s m args meth c (dC, dI) (q_T cI cJ cZ) A RX5 wsX5_tell cX5_tell 3 none) {x1 : Int32} {x2 : Int32} {r : (Nat → Int32)} {R : (Nat → Int32)} (hf : f_X5_tell x1 x2 r = some R) : ∀ (H : Heap) (locs : List Loc) (ls : Array Slot), va_P (dC, dI) vwCl [(aR, .inr (5, [.int (r 0), .int (r 1), .int (r 2), .int (r 3), .int (r 4), .int (r 5), .int (r 6)]))] H → va_D A [(aR, .inr (5, [.int (r 0), .int (r 1), .int (r 2), .int (r 3), .int (r 4), .int (r 5), .int (r 6)]))] → va_S A s.heap H locs → lv_has ls 3 [(0, .ref aR), (1, .int x1), (2, .int x2)] → W p l e rmX5_tell s m args below meth c H locs 0 0 (MQ below (qV (dC, dI) (q_T cI cJ cZ) [(aR, .inr (5, [.int (R 0), .int (R 1), .int (R 2), .int (R 3), .int (R 4), .int (R 5), .int (R 6)]))] A) args s 0 0 A) (F0 m 0 ls []) := by
  obtain ⟨hx, hb, hml, hown, hts, hrt, hlk, hK, hX, hA⟩ := id C0
  intro H locs ls hP hD hS hl
  refine lv_iload_n hx hb dX5_tell_0 rfl (lv_at hl 1 rfl) ?_
  by_cases hs1 : x1 = 0
  · have hf := q_if hf hs1
    refine lv_tableIn (off := 43) (tgt := 44) hx hb dX5_tell_1 (by rw [hs1]; decide) (by rw [hs1]; decide) (by rw [hs1]; rfl) (by decide) ?_
    refine lv_aload_n hx hb dX5_tell_44 rfl (lv_at hl 0 rfl) ?_
    refine lv_iload_n hx hb dX5_tell_45 rfl (lv_at hl 2 rfl) ?_
    refine q_put (ty := .int) (TT := TX5) C0 in_X5_tell_X5 tyX5 tyX5_ok nmX5 0 m_X5_tell_f9 hP hD hS 0 rfl rfl (by decide) rfl rfl (by decide +kernel) rfl rfl (Nat.le_of_ble_eq_true rfl) dX5_tell_46 (fun H locs hP hD hS => ?_)
    have hP : va_P (dC, dI) vwCl [(aR, .inr (5, [.int x2, .int (r 1), .int (r 2), .int (r 3), .int (r 4), .int (r 5), .int (r 6)]))] H := hP
    have hD : va_D A [(aR, .inr (5, [.int x2, .int (r 1), .int (r 2), .int (r 3), .int (r 4), .int (r 5), .int (r 6)]))] := hD
    refine lv_goto (tgt := 105) hx hb dX5_tell_49 (by decide) ?_
    obtain rfl := Option.some.inj hf
    exact q_retV C0 hP hD hS dX5_tell_105
  have hf := q_nif hf hs1
  by_cases hs2 : x1 = 1
  · have hf := q_if hf hs2
    refine lv_tableIn (off := 51) (tgt := 52) hx hb dX5_tell_1 (by rw [hs2]; decide) (by rw [hs2]; decide) (by rw [hs2]; rfl) (by decide) ?_
    refine lv_aload_n hx hb dX5_tell_52 rfl (lv_at hl 0 rfl) ?_
    refine lv_iload_n hx hb dX5_tell_53 rfl (lv_at hl 2 rfl) ?_
    refine q_put (ty := .int) (TT := TX5) C0 in_X5_tell_X5 tyX5 tyX5_ok nmX5 1 m_X5_tell_f15 hP hD hS 0 rfl rfl (by decide) rfl rfl (by decide +kernel) rfl rfl (Nat.le_of_ble_eq_true rfl) dX5_tell_54 (fun H locs hP hD hS => ?_)
    have hP : va_P (dC, dI) vwCl [(aR, .inr (5, [.int (r 0), .int x2, .int (r 2), .int (r 3), .int (r 4), .int (r 5), .int (r 6)]))] H := hP
    have hD : va_D A [(aR, .inr (5, [.int (r 0), .int x2, .int (r 2), .int (r 3), .int (r 4), .int (r 5), .int (r 6)]))] := hD
    refine lv_goto (tgt := 105) hx hb dX5_tell_57 (by decide) ?_
    obtain rfl := Option.some.inj hf
    exact q_retV C0 hP hD hS dX5_tell_105
  have hf := q_nif hf hs2
  by_cases hs3 : x1 = 2
  · have hf := q_if hf hs3
    refine lv_tableIn (off := 59) (tgt := 60) hx hb dX5_tell_1 (by rw [hs3]; decide) (by rw [hs3]; decide) (by rw [hs3]; rfl) (by decide) ?_
    refine lv_aload_n hx hb dX5_tell_60 rfl (lv_at hl 0 rfl) ?_
    refine lv_iload_n hx hb dX5_tell_61 rfl (lv_at hl 2 rfl) ?_
    refine q_put (ty := .int) (TT := TX5) C0 in_X5_tell_X5 tyX5 tyX5_ok nmX5 2 m_X5_tell_f18 hP hD hS 0 rfl rfl (by decide) rfl rfl (by decide +kernel) rfl rfl (Nat.le_of_ble_eq_true rfl) dX5_tell_62 (fun H locs hP hD hS => ?_)
    have hP : va_P (dC, dI) vwCl [(aR, .inr (5, [.int (r 0), .int (r 1), .int x2, .int (r 3), .int (r 4), .int (r 5), .int (r 6)]))] H := hP
    have hD : va_D A [(aR, .inr (5, [.int (r 0), .int (r 1), .int x2, .int (r 3), .int (r 4), .int (r 5), .int (r 6)]))] := hD
    refine lv_aload_n hx hb dX5_tell_65 rfl (lv_at hl 0 rfl) ?_
    refine lv_iconst (v := 0) hx hb dX5_tell_66 (by decide) ?_
    refine q_put (ty := .int) (TT := TX5) C0 in_X5_tell_X5 tyX5 tyX5_ok nmX5 5 m_X5_tell_f27 hP hD hS 0 rfl rfl (by decide) rfl rfl (by decide +kernel) rfl rfl (Nat.le_of_ble_eq_true rfl) dX5_tell_67 (fun H locs hP hD hS => ?_)
    have hP : va_P (dC, dI) vwCl [(aR, .inr (5, [.int (r 0), .int (r 1), .int x2, .int (r 3), .int (r 4), .int 0, .int (r 6)]))] H := hP
    have hD : va_D A [(aR, .inr (5, [.int (r 0), .int (r 1), .int x2, .int (r 3), .int (r 4), .int 0, .int (r 6)]))] := hD
    refine lv_goto (tgt := 105) hx hb dX5_tell_70 (by decide) ?_
    obtain rfl := Option.some.inj hf
    exact q_retV C0 hP hD hS dX5_tell_105
  have hf := q_nif hf hs3
  by_cases hs4 : x1 = 3
  · have hf := q_if hf hs4
    refine lv_tableIn (off := 72) (tgt := 73) hx hb dX5_tell_1 (by rw [hs4]; decide) (by rw [hs4]; decide) (by rw [hs4]; rfl) (by decide) ?_
    refine lv_aload_n hx hb dX5_tell_73 rfl (lv_at hl 0 rfl) ?_
    refine lv_iload_n hx hb dX5_tell_74 rfl (lv_at hl 2 rfl) ?_
    refine q_put (ty := .int) (TT := TX5) C0 in_X5_tell_X5 tyX5 tyX5_ok nmX5 3 m_X5_tell_f21 hP hD hS 0 rfl rfl (by decide) rfl rfl (by decide +kernel) rfl rfl (Nat.le_of_ble_eq_true rfl) dX5_tell_75 (fun H locs hP hD hS => ?_)
    have hP : va_P (dC, dI) vwCl [(aR, .inr (5, [.int (r 0), .int (r 1), .int (r 2), .int x2, .int (r 4), .int (r 5), .int (r 6)]))] H := hP
    have hD : va_D A [(aR, .inr (5, [.int (r 0), .int (r 1), .int (r 2), .int x2, .int (r 4), .int (r 5), .int (r 6)]))] := hD
    refine lv_goto (tgt := 105) hx hb dX5_tell_78 (by decide) ?_
    obtain rfl := Option.some.inj hf
    exact q_retV C0 hP hD hS dX5_tell_105
  have hf := q_nif hf hs4
  by_cases hs5 : x1 = 4
  · have hf := q_if hf hs5
    refine lv_tableIn (off := 80) (tgt := 81) hx hb dX5_tell_1 (by rw [hs5]; decide) (by rw [hs5]; decide) (by rw [hs5]; rfl) (by decide) ?_
    refine lv_aload_n hx hb dX5_tell_81 rfl (lv_at hl 0 rfl) ?_
    refine lv_iload_n hx hb dX5_tell_82 rfl (lv_at hl 2 rfl) ?_
    refine q_put (ty := .int) (TT := TX5) C0 in_X5_tell_X5 tyX5 tyX5_ok nmX5 4 m_X5_tell_f24 hP hD hS 0 rfl rfl (by decide) rfl rfl (by decide +kernel) rfl rfl (Nat.le_of_ble_eq_true rfl) dX5_tell_83 (fun H locs hP hD hS => ?_)
    have hP : va_P (dC, dI) vwCl [(aR, .inr (5, [.int (r 0), .int (r 1), .int (r 2), .int (r 3), .int x2, .int (r 5), .int (r 6)]))] H := hP
    have hD : va_D A [(aR, .inr (5, [.int (r 0), .int (r 1), .int (r 2), .int (r 3), .int x2, .int (r 5), .int (r 6)]))] := hD
    refine lv_goto (tgt := 105) hx hb dX5_tell_86 (by decide) ?_
    obtain rfl := Option.some.inj hf
    exact q_retV C0 hP hD hS dX5_tell_105
  have hf := q_nif hf hs5
  by_cases hs6 : x1 = 5
  · have hf := q_if hf hs6
    refine lv_tableIn (off := 88) (tgt := 89) hx hb dX5_tell_1 (by rw [hs6]; decide) (by rw [hs6]; decide) (by rw [hs6]; rfl) (by decide) ?_
    refine lv_aload_n hx hb dX5_tell_89 rfl (lv_at hl 0 rfl) ?_
    refine lv_iload_n hx hb dX5_tell_90 rfl (lv_at hl 2 rfl) ?_
    refine q_put (ty := .int) (TT := TX5) C0 in_X5_tell_X5 tyX5 tyX5_ok nmX5 5 m_X5_tell_f27 hP hD hS 0 rfl rfl (by decide) rfl rfl (by decide +kernel) rfl rfl (Nat.le_of_ble_eq_true rfl) dX5_tell_91 (fun H locs hP hD hS => ?_)
    have hP : va_P (dC, dI) vwCl [(aR, .inr (5, [.int (r 0), .int (r 1), .int (r 2), .int (r 3), .int (r 4), .int x2, .int (r 6)]))] H := hP
    have hD : va_D A [(aR, .inr (5, [.int (r 0), .int (r 1), .int (r 2), .int (r 3), .int (r 4), .int x2, .int (r 6)]))] := hD
    refine lv_goto (tgt := 105) hx hb dX5_tell_94 (by decide) ?_
    obtain rfl := Option.some.inj hf
    exact q_retV C0 hP hD hS dX5_tell_105
  have hf := q_nif hf hs6
  by_cases hs7 : x1 = 6
  · have hf := q_if hf hs7
    refine lv_tableIn (off := 96) (tgt := 97) hx hb dX5_tell_1 (by rw [hs7]; decide) (by rw [hs7]; decide) (by rw [hs7]; rfl) (by decide) ?_
    refine lv_aload_n hx hb dX5_tell_97 rfl (lv_at hl 0 rfl) ?_
    refine lv_iload_n hx hb dX5_tell_98 rfl (lv_at hl 2 rfl) ?_
    refine q_put (ty := .int) (TT := TX5) C0 in_X5_tell_X5 tyX5 tyX5_ok nmX5 6 m_X5_tell_f30 hP hD hS 0 rfl rfl (by decide) rfl rfl (by decide +kernel) rfl rfl (Nat.le_of_ble_eq_true rfl) dX5_tell_99 (fun H locs hP hD hS => ?_)
    have hP : va_P (dC, dI) vwCl [(aR, .inr (5, [.int (r 0), .int (r 1), .int (r 2), .int (r 3), .int (r 4), .int (r 5), .int x2]))] H := hP
    have hD : va_D A [(aR, .inr (5, [.int (r 0), .int (r 1), .int (r 2), .int (r 3), .int (r 4), .int (r 5), .int x2]))] := hD
    refine lv_goto (tgt := 105) hx hb dX5_tell_102 (by decide) ?_
    obtain rfl := Option.some.inj hf
    exact q_retV C0 hP hD hS dX5_tell_105
  have hf := q_nif hf hs7
  refine lv_tableOut (tgt := 105) hx hb dX5_tell_1 (by have n0 := lv_neT (a := 0) hs1 rfl; have n1 := lv_neT (a := 1) hs2 rfl; have n2 := lv_neT (a := 2) hs3 rfl; have n3 := lv_neT (a := 3) hs4 rfl; have n4 := lv_neT (a := 4) hs5 rfl; have n5 := lv_neT (a := 5) hs6 rfl; have n6 := lv_neT (a := 6) hs7 rfl; omega) (by decide) ?_
  obtain rfl := Option.some.inj hf
  exact q_retV C0 hP hD hS dX5_tell_105
set_option maxHeartbeats 4000000 in
set_option maxRecDepth 100000 in
theorem c_X5_tell {l : Launch} {dC : Nat → ClassId} {dI : Nat → Nat → Nat} {cI cJ cZ : ClassId} {aR : Nat} {x1 : Int32} {x2 : Int32} {r : (Nat → Int32)} {R : (Nat → Int32)} (hf : f_X5_tell x1 x2 r = some R) : q_M l yX5_tell wsX5_tell rmX5_tell (dC, dI) (q_T cI cJ cZ) [.ref aR, .int x1, .int x2] [(aR, .inr (5, [.int (r 0), .int (r 1), .int (r 2), .int (r 3), .int (r 4), .int (r 5), .int (r 6)]))] (qV (dC, dI) (q_T cI cJ cZ) [(aR, .inr (5, [.int (R 0), .int (R 1), .int (R 2), .int (R 3), .int (R 4), .int (R 5), .int (R 6)]))]) := by
  refine q_body (cc := cX5_tell) (maxL := 3) (ret := none) (by decide) rfl (Nat.le_of_ble_eq_true rfl) ?_
  intro p e s m args below meth c A C0 ls hP hD hS hl
  have hl : lv_has ls 3 [(0, .ref aR), (1, .int x1), (2, .int x2)] := hl
  exact B_X5_tell_0 C0 hf s.heap [] ls hP hD hS hl

/-! ## RungPlay$Rules.gameWinner -/
abbrev rmX5_gameWinner : Room := { frames := 1, cells := 0, slots := 0, locals := 21 }
theorem m_X5_gameWinner_f18 : Cond.fieldLink RX5 18 RX5 "toPoints" "I" ∈ wsX5_gameWinner := by decide +kernel
theorem in_X5_gameWinner_X5 : ∀ w ∈ wsX50, w ∈ wsX5_gameWinner := by decide +kernel
theorem m_X5_gameWinner_l37 : Cond.methodLink RX5 37 Lib.Math.max.name ∈ wsX5_gameWinner := by decide +kernel
theorem m_X5_gameWinner_stmax : Cond.static Lib.Math.max.name ∈ wsX5_gameWinner := by decide +kernel
theorem m_X5_gameWinner_imath : Cond.initialized "java/lang/Math" ∈ wsX5_gameWinner := by decide +kernel
theorem m_X5_gameWinner_cmax : Cond.code Lib.Math.max.name Lib.Math.max.code 2 (some .int) ∈ wsX5_gameWinner := by decide +kernel
theorem m_X5_gameWinner_l43 : Cond.methodLink RX5 43 Lib.Math.min.name ∈ wsX5_gameWinner := by decide +kernel
theorem m_X5_gameWinner_stmin : Cond.static Lib.Math.min.name ∈ wsX5_gameWinner := by decide +kernel
theorem m_X5_gameWinner_cmin : Cond.code Lib.Math.min.name Lib.Math.min.code 2 (some .int) ∈ wsX5_gameWinner := by decide +kernel
def b_X5_gameWinner_113 (x2 : Int32) (x3 : Int32) (x6 : Int32) (r : (Nat → Int32)) : Option (Int32) :=
  (if x6 = 0 then (some 0) else (q_b1 (f_X5_leader x2 x3) (fun r2 => (some r2))))
def b_X5_gameWinner_111 (x2 : Int32) (x3 : Int32) (s0 : Int32) (r : (Nat → Int32)) : Option (Int32) :=
  (b_X5_gameWinner_113 x2 x3 s0 r)
def b_X5_gameWinner_110 (x2 : Int32) (x3 : Int32) (r : (Nat → Int32)) : Option (Int32) :=
  (b_X5_gameWinner_111 x2 x3 0 r)
def b_X5_gameWinner_106 (x2 : Int32) (x3 : Int32) (r : (Nat → Int32)) : Option (Int32) :=
  (b_X5_gameWinner_111 x2 x3 1 r)
def b_X5_gameWinner_72 (x1 : Int32) (x2 : Int32) (x3 : Int32) (x4 : Int32) (x5 : Int32) (x6 : Int32) (r : (Nat → Int32)) : Option (Int32) :=
  (if x1 < 2 then (b_X5_gameWinner_113 x2 x3 x6 r) else (if (r 2) < 3 then (b_X5_gameWinner_113 x2 x3 x6 r) else (if x6 = 0 then (if x4 < ((r 2) - 1) then (b_X5_gameWinner_110 x2 x3 r) else (if x5 = 0 then (b_X5_gameWinner_106 x2 x3 r) else (b_X5_gameWinner_110 x2 x3 r))) else (b_X5_gameWinner_106 x2 x3 r))))
def b_X5_gameWinner_70 (x1 : Int32) (x2 : Int32) (x3 : Int32) (x4 : Int32) (x5 : Int32) (s0 : Int32) (r : (Nat → Int32)) : Option (Int32) :=
  (b_X5_gameWinner_72 x1 x2 x3 x4 x5 s0 r)
def b_X5_gameWinner_69 (x1 : Int32) (x2 : Int32) (x3 : Int32) (x4 : Int32) (x5 : Int32) (r : (Nat → Int32)) : Option (Int32) :=
  (b_X5_gameWinner_70 x1 x2 x3 x4 x5 0 r)
def b_X5_gameWinner_65 (x1 : Int32) (x2 : Int32) (x3 : Int32) (x4 : Int32) (x5 : Int32) (r : (Nat → Int32)) : Option (Int32) :=
  (b_X5_gameWinner_70 x1 x2 x3 x4 x5 1 r)
def b_X5_gameWinner_37 (x1 : Int32) (x2 : Int32) (x3 : Int32) (x4 : Int32) (x5 : Int32) (s0 : Int32) (r : (Nat → Int32)) : Option (Int32) :=
  (if x1 < 1 then (b_X5_gameWinner_72 x1 x2 x3 x4 x5 s0 r) else (if s0 = 0 then (if x4 < (r 2) then (b_X5_gameWinner_69 x1 x2 x3 x4 x5 r) else (if x4 ≤ x5 then (b_X5_gameWinner_69 x1 x2 x3 x4 x5 r) else (b_X5_gameWinner_65 x1 x2 x3 x4 x5 r))) else (b_X5_gameWinner_65 x1 x2 x3 x4 x5 r)))
def b_X5_gameWinner_36 (x1 : Int32) (x2 : Int32) (x3 : Int32) (x4 : Int32) (x5 : Int32) (r : (Nat → Int32)) : Option (Int32) :=
  (b_X5_gameWinner_37 x1 x2 x3 x4 x5 0 r)
def f_X5_gameWinner (x1 : Int32) (x2 : Int32) (x3 : Int32) (r : (Nat → Int32)) : Option (Int32) :=
  (if (if x2 < x3 then x3 else x2) < (r 2) then (b_X5_gameWinner_36 x1 x2 x3 (if x2 < x3 then x3 else x2) (if x3 < x2 then x3 else x2) r) else (if ((if x2 < x3 then x3 else x2) - (if x3 < x2 then x3 else x2)) < 2 then (b_X5_gameWinner_36 x1 x2 x3 (if x2 < x3 then x3 else x2) (if x3 < x2 then x3 else x2) r) else (b_X5_gameWinner_37 x1 x2 x3 (if x2 < x3 then x3 else x2) (if x3 < x2 then x3 else x2) 1 r)))
set_option maxHeartbeats 4000000 in
set_option maxRecDepth 100000 in
theorem B_X5_gameWinner_113 {p : Program} {l : Launch} {e : Env} {s : State} {m : MethodId} {args : Array Value} {below : List Frame} {meth : Method} {c : Code} {A : Nat → Prop} {dC : Nat → ClassId} {dI : Nat → Nat → Nat} {cI cJ cZ : ClassId} {aR : Nat} (C0 : q_C p s m args meth c (dC, dI) (q_T cI cJ cZ) A RX5 wsX5_gameWinner cX5_gameWinner 7 (some .int)) {x2 : Int32} {x3 : Int32} {x6 : Int32} {r : (Nat → Int32)} {R : Int32} (hf : b_X5_gameWinner_113 x2 x3 x6 r = some R) : ∀ (H : Heap) (locs : List Loc) (ls : Array Slot), va_P (dC, dI) vwCl [(aR, .inr (5, [.int (r 0), .int (r 1), .int (r 2), .int (r 3), .int (r 4), .int (r 5), .int (r 6)]))] H → va_D A [(aR, .inr (5, [.int (r 0), .int (r 1), .int (r 2), .int (r 3), .int (r 4), .int (r 5), .int (r 6)]))] → va_S A s.heap H locs → lv_has ls 7 [(2, .int x2), (3, .int x3), (6, .int x6)] → W p l e rmX5_gameWinner s m args below meth c H locs 0 0 (MQ below (qI (dC, dI) (q_T cI cJ cZ) [(aR, .inr (5, [.int (r 0), .int (r 1), .int (r 2), .int (r 3), .int (r 4), .int (r 5), .int (r 6)]))] R A) args s 0 0 A) (F0 m 113 ls []) := by
  obtain ⟨hx, hb, hml, hown, hts, hrt, hlk, hK, hX, hA⟩ := id C0
  intro H locs ls hP hD hS hl
  refine lv_iload hx hb dX5_gameWinner_113 (lv_at hl 2 rfl) ?_
  refine lv_if_eq (tgt := 126) hx hb dX5_gameWinner_115 (by decide) (fun hc1 => ?_) (fun hc1 => ?_)
  · have hf := q_if hf hc1
    refine lv_iconst (v := 0) hx hb dX5_gameWinner_126 (by decide) ?_
    obtain rfl := Option.some.inj hf
    exact q_retI C0 hP hD hS dX5_gameWinner_127
  · have hf := q_nif hf hc1
    refine lv_iload_n hx hb dX5_gameWinner_118 rfl (lv_at hl 0 rfl) ?_
    refine lv_iload_n hx hb dX5_gameWinner_119 rfl (lv_at hl 1 rfl) ?_
    obtain ⟨r2, hg3, hf⟩ := q_e1 hf
    refine q_endI (wc := []) (wr := [(aR, .inr (5, [.int (r 0), .int (r 1), .int (r 2), .int (r 3), .int (r 4), .int (r 5), .int (r 6)]))]) (w1 := []) (rv := r2) C0 hP hD hS [] [0] rfl rfl (by decide) (by decide) (q_runS C0 (c_X5_leader (l := l) hg3) (va_cwS 2 hts gX5_gameWinner_X5_leader rfl rfl rfl (by decide +kernel) ⟨Nat.le_of_ble_eq_true rfl, Nat.le_of_ble_eq_true rfl⟩) hP hD hS [] rfl (by decide) rfl rfl hl.1 (Nat.le_of_ble_eq_true rfl) dX5_gameWinner_120) (fun H locs hP hD hS => ?_)
    have hP : va_P (dC, dI) vwCl [(aR, .inr (5, [.int (r 0), .int (r 1), .int (r 2), .int (r 3), .int (r 4), .int (r 5), .int (r 6)]))] H := hP
    have hD : va_D A [(aR, .inr (5, [.int (r 0), .int (r 1), .int (r 2), .int (r 3), .int (r 4), .int (r 5), .int (r 6)]))] := hD
    refine lv_goto (tgt := 127) hx hb dX5_gameWinner_123 (by decide) ?_
    obtain rfl := Option.some.inj hf
    exact q_retI C0 hP hD hS dX5_gameWinner_127
set_option maxHeartbeats 4000000 in
set_option maxRecDepth 100000 in
theorem B_X5_gameWinner_111 {p : Program} {l : Launch} {e : Env} {s : State} {m : MethodId} {args : Array Value} {below : List Frame} {meth : Method} {c : Code} {A : Nat → Prop} {dC : Nat → ClassId} {dI : Nat → Nat → Nat} {cI cJ cZ : ClassId} {aR : Nat} (C0 : q_C p s m args meth c (dC, dI) (q_T cI cJ cZ) A RX5 wsX5_gameWinner cX5_gameWinner 7 (some .int)) {x2 : Int32} {x3 : Int32} {s0 : Int32} {r : (Nat → Int32)} {R : Int32} (hf : b_X5_gameWinner_111 x2 x3 s0 r = some R) : ∀ (H : Heap) (locs : List Loc) (ls : Array Slot), va_P (dC, dI) vwCl [(aR, .inr (5, [.int (r 0), .int (r 1), .int (r 2), .int (r 3), .int (r 4), .int (r 5), .int (r 6)]))] H → va_D A [(aR, .inr (5, [.int (r 0), .int (r 1), .int (r 2), .int (r 3), .int (r 4), .int (r 5), .int (r 6)]))] → va_S A s.heap H locs → lv_has ls 7 [(2, .int x2), (3, .int x3)] → W p l e rmX5_gameWinner s m args below meth c H locs 0 0 (MQ below (qI (dC, dI) (q_T cI cJ cZ) [(aR, .inr (5, [.int (r 0), .int (r 1), .int (r 2), .int (r 3), .int (r 4), .int (r 5), .int (r 6)]))] R A) args s 0 0 A) (F0 m 111 ls [.int s0]) := by
  obtain ⟨hx, hb, hml, hown, hts, hrt, hlk, hK, hX, hA⟩ := id C0
  intro H locs ls hP hD hS hl
  refine lv_istore (lv' := [(6, .int s0), (2, .int x2), (3, .int x3)]) hx hb dX5_gameWinner_111 hl (by decide) rfl (fun ls hl => ?_)
  exact B_X5_gameWinner_113 C0 hf H locs ls hP hD hS (lv_sub hl [1, 2, 0] rfl)
set_option maxHeartbeats 4000000 in
set_option maxRecDepth 100000 in
theorem B_X5_gameWinner_110 {p : Program} {l : Launch} {e : Env} {s : State} {m : MethodId} {args : Array Value} {below : List Frame} {meth : Method} {c : Code} {A : Nat → Prop} {dC : Nat → ClassId} {dI : Nat → Nat → Nat} {cI cJ cZ : ClassId} {aR : Nat} (C0 : q_C p s m args meth c (dC, dI) (q_T cI cJ cZ) A RX5 wsX5_gameWinner cX5_gameWinner 7 (some .int)) {x2 : Int32} {x3 : Int32} {r : (Nat → Int32)} {R : Int32} (hf : b_X5_gameWinner_110 x2 x3 r = some R) : ∀ (H : Heap) (locs : List Loc) (ls : Array Slot), va_P (dC, dI) vwCl [(aR, .inr (5, [.int (r 0), .int (r 1), .int (r 2), .int (r 3), .int (r 4), .int (r 5), .int (r 6)]))] H → va_D A [(aR, .inr (5, [.int (r 0), .int (r 1), .int (r 2), .int (r 3), .int (r 4), .int (r 5), .int (r 6)]))] → va_S A s.heap H locs → lv_has ls 7 [(2, .int x2), (3, .int x3)] → W p l e rmX5_gameWinner s m args below meth c H locs 0 0 (MQ below (qI (dC, dI) (q_T cI cJ cZ) [(aR, .inr (5, [.int (r 0), .int (r 1), .int (r 2), .int (r 3), .int (r 4), .int (r 5), .int (r 6)]))] R A) args s 0 0 A) (F0 m 110 ls []) := by
  obtain ⟨hx, hb, hml, hown, hts, hrt, hlk, hK, hX, hA⟩ := id C0
  intro H locs ls hP hD hS hl
  refine lv_iconst (v := 0) hx hb dX5_gameWinner_110 (by decide) ?_
  exact B_X5_gameWinner_111 C0 hf H locs ls hP hD hS hl
set_option maxHeartbeats 4000000 in
set_option maxRecDepth 100000 in
theorem B_X5_gameWinner_106 {p : Program} {l : Launch} {e : Env} {s : State} {m : MethodId} {args : Array Value} {below : List Frame} {meth : Method} {c : Code} {A : Nat → Prop} {dC : Nat → ClassId} {dI : Nat → Nat → Nat} {cI cJ cZ : ClassId} {aR : Nat} (C0 : q_C p s m args meth c (dC, dI) (q_T cI cJ cZ) A RX5 wsX5_gameWinner cX5_gameWinner 7 (some .int)) {x2 : Int32} {x3 : Int32} {r : (Nat → Int32)} {R : Int32} (hf : b_X5_gameWinner_106 x2 x3 r = some R) : ∀ (H : Heap) (locs : List Loc) (ls : Array Slot), va_P (dC, dI) vwCl [(aR, .inr (5, [.int (r 0), .int (r 1), .int (r 2), .int (r 3), .int (r 4), .int (r 5), .int (r 6)]))] H → va_D A [(aR, .inr (5, [.int (r 0), .int (r 1), .int (r 2), .int (r 3), .int (r 4), .int (r 5), .int (r 6)]))] → va_S A s.heap H locs → lv_has ls 7 [(2, .int x2), (3, .int x3)] → W p l e rmX5_gameWinner s m args below meth c H locs 0 0 (MQ below (qI (dC, dI) (q_T cI cJ cZ) [(aR, .inr (5, [.int (r 0), .int (r 1), .int (r 2), .int (r 3), .int (r 4), .int (r 5), .int (r 6)]))] R A) args s 0 0 A) (F0 m 106 ls []) := by
  obtain ⟨hx, hb, hml, hown, hts, hrt, hlk, hK, hX, hA⟩ := id C0
  intro H locs ls hP hD hS hl
  refine lv_iconst (v := 1) hx hb dX5_gameWinner_106 (by decide) ?_
  refine lv_goto (tgt := 111) hx hb dX5_gameWinner_107 (by decide) ?_
  exact B_X5_gameWinner_111 C0 hf H locs ls hP hD hS hl
set_option maxHeartbeats 4000000 in
set_option maxRecDepth 100000 in
theorem B_X5_gameWinner_72 {p : Program} {l : Launch} {e : Env} {s : State} {m : MethodId} {args : Array Value} {below : List Frame} {meth : Method} {c : Code} {A : Nat → Prop} {dC : Nat → ClassId} {dI : Nat → Nat → Nat} {cI cJ cZ : ClassId} {aR : Nat} (C0 : q_C p s m args meth c (dC, dI) (q_T cI cJ cZ) A RX5 wsX5_gameWinner cX5_gameWinner 7 (some .int)) {x1 : Int32} {x2 : Int32} {x3 : Int32} {x4 : Int32} {x5 : Int32} {x6 : Int32} {r : (Nat → Int32)} {R : Int32} (hf : b_X5_gameWinner_72 x1 x2 x3 x4 x5 x6 r = some R) : ∀ (H : Heap) (locs : List Loc) (ls : Array Slot), va_P (dC, dI) vwCl [(aR, .inr (5, [.int (r 0), .int (r 1), .int (r 2), .int (r 3), .int (r 4), .int (r 5), .int (r 6)]))] H → va_D A [(aR, .inr (5, [.int (r 0), .int (r 1), .int (r 2), .int (r 3), .int (r 4), .int (r 5), .int (r 6)]))] → va_S A s.heap H locs → lv_has ls 7 [(0, .ref aR), (1, .int x1), (2, .int x2), (3, .int x3), (4, .int x4), (5, .int x5), (6, .int x6)] → W p l e rmX5_gameWinner s m args below meth c H locs 0 0 (MQ below (qI (dC, dI) (q_T cI cJ cZ) [(aR, .inr (5, [.int (r 0), .int (r 1), .int (r 2), .int (r 3), .int (r 4), .int (r 5), .int (r 6)]))] R A) args s 0 0 A) (F0 m 72 ls []) := by
  obtain ⟨hx, hb, hml, hown, hts, hrt, hlk, hK, hX, hA⟩ := id C0
  intro H locs ls hP hD hS hl
  refine lv_iload_n hx hb dX5_gameWinner_72 rfl (lv_at hl 1 rfl) ?_
  refine lv_iconst (v := 2) hx hb dX5_gameWinner_73 (by decide) ?_
  refine lv_icmp_lt (tgt := 113) hx hb dX5_gameWinner_74 (by decide) (fun hc4 => ?_) (fun hc4 => ?_)
  · have hf := q_if hf hc4
    exact B_X5_gameWinner_113 C0 hf H locs ls hP hD hS (lv_sub hl [2, 3, 6] rfl)
  · have hf := q_nif hf hc4
    refine lv_aload_n hx hb dX5_gameWinner_77 rfl (lv_at hl 0 rfl) ?_
    refine q_get (TT := TX5) C0 in_X5_gameWinner_X5 2 m_X5_gameWinner_f18 hP 0 rfl rfl (by decide) rfl rfl dX5_gameWinner_78 ?_
    refine lv_iconst (v := 3) hx hb dX5_gameWinner_81 (by decide) ?_
    refine lv_icmp_lt (tgt := 113) hx hb dX5_gameWinner_82 (by decide) (fun hc5 => ?_) (fun hc5 => ?_)
    · have hf := q_if hf hc5
      exact B_X5_gameWinner_113 C0 hf H locs ls hP hD hS (lv_sub hl [2, 3, 6] rfl)
    · have hf := q_nif hf hc5
      refine lv_iload hx hb dX5_gameWinner_85 (lv_at hl 6 rfl) ?_
      refine lv_if_ne (tgt := 106) hx hb dX5_gameWinner_87 (by decide) (fun hc6 => ?_) (fun hc6 => ?_)
      · have hf := q_nif hf hc6
        exact B_X5_gameWinner_106 C0 hf H locs ls hP hD hS (lv_sub hl [2, 3] rfl)
      · have hf := q_if hf hc6
        refine lv_iload hx hb dX5_gameWinner_90 (lv_at hl 4 rfl) ?_
        refine lv_aload_n hx hb dX5_gameWinner_92 rfl (lv_at hl 0 rfl) ?_
        refine q_get (TT := TX5) C0 in_X5_gameWinner_X5 2 m_X5_gameWinner_f18 hP 0 rfl rfl (by decide) rfl rfl dX5_gameWinner_93 ?_
        refine lv_iconst (v := 1) hx hb dX5_gameWinner_96 (by decide) ?_
        refine lv_isub hx hb dX5_gameWinner_97 ?_
        refine lv_icmp_lt (tgt := 110) hx hb dX5_gameWinner_98 (by decide) (fun hc7 => ?_) (fun hc7 => ?_)
        · have hf := q_if hf hc7
          exact B_X5_gameWinner_110 C0 hf H locs ls hP hD hS (lv_sub hl [2, 3] rfl)
        · have hf := q_nif hf hc7
          refine lv_iload hx hb dX5_gameWinner_101 (lv_at hl 5 rfl) ?_
          refine lv_if_ne (tgt := 110) hx hb dX5_gameWinner_103 (by decide) (fun hc8 => ?_) (fun hc8 => ?_)
          · have hf := q_nif hf hc8
            exact B_X5_gameWinner_110 C0 hf H locs ls hP hD hS (lv_sub hl [2, 3] rfl)
          · have hf := q_if hf hc8
            exact B_X5_gameWinner_106 C0 hf H locs ls hP hD hS (lv_sub hl [2, 3] rfl)
set_option maxHeartbeats 4000000 in
set_option maxRecDepth 100000 in
theorem B_X5_gameWinner_70 {p : Program} {l : Launch} {e : Env} {s : State} {m : MethodId} {args : Array Value} {below : List Frame} {meth : Method} {c : Code} {A : Nat → Prop} {dC : Nat → ClassId} {dI : Nat → Nat → Nat} {cI cJ cZ : ClassId} {aR : Nat} (C0 : q_C p s m args meth c (dC, dI) (q_T cI cJ cZ) A RX5 wsX5_gameWinner cX5_gameWinner 7 (some .int)) {x1 : Int32} {x2 : Int32} {x3 : Int32} {x4 : Int32} {x5 : Int32} {s0 : Int32} {r : (Nat → Int32)} {R : Int32} (hf : b_X5_gameWinner_70 x1 x2 x3 x4 x5 s0 r = some R) : ∀ (H : Heap) (locs : List Loc) (ls : Array Slot), va_P (dC, dI) vwCl [(aR, .inr (5, [.int (r 0), .int (r 1), .int (r 2), .int (r 3), .int (r 4), .int (r 5), .int (r 6)]))] H → va_D A [(aR, .inr (5, [.int (r 0), .int (r 1), .int (r 2), .int (r 3), .int (r 4), .int (r 5), .int (r 6)]))] → va_S A s.heap H locs → lv_has ls 7 [(0, .ref aR), (1, .int x1), (2, .int x2), (3, .int x3), (4, .int x4), (5, .int x5)] → W p l e rmX5_gameWinner s m args below meth c H locs 0 0 (MQ below (qI (dC, dI) (q_T cI cJ cZ) [(aR, .inr (5, [.int (r 0), .int (r 1), .int (r 2), .int (r 3), .int (r 4), .int (r 5), .int (r 6)]))] R A) args s 0 0 A) (F0 m 70 ls [.int s0]) := by
  obtain ⟨hx, hb, hml, hown, hts, hrt, hlk, hK, hX, hA⟩ := id C0
  intro H locs ls hP hD hS hl
  refine lv_istore (lv' := [(6, .int s0), (0, .ref aR), (1, .int x1), (2, .int x2), (3, .int x3), (4, .int x4), (5, .int x5)]) hx hb dX5_gameWinner_70 hl (by decide) rfl (fun ls hl => ?_)
  exact B_X5_gameWinner_72 C0 hf H locs ls hP hD hS (lv_sub hl [1, 2, 3, 4, 5, 6, 0] rfl)
set_option maxHeartbeats 4000000 in
set_option maxRecDepth 100000 in
theorem B_X5_gameWinner_69 {p : Program} {l : Launch} {e : Env} {s : State} {m : MethodId} {args : Array Value} {below : List Frame} {meth : Method} {c : Code} {A : Nat → Prop} {dC : Nat → ClassId} {dI : Nat → Nat → Nat} {cI cJ cZ : ClassId} {aR : Nat} (C0 : q_C p s m args meth c (dC, dI) (q_T cI cJ cZ) A RX5 wsX5_gameWinner cX5_gameWinner 7 (some .int)) {x1 : Int32} {x2 : Int32} {x3 : Int32} {x4 : Int32} {x5 : Int32} {r : (Nat → Int32)} {R : Int32} (hf : b_X5_gameWinner_69 x1 x2 x3 x4 x5 r = some R) : ∀ (H : Heap) (locs : List Loc) (ls : Array Slot), va_P (dC, dI) vwCl [(aR, .inr (5, [.int (r 0), .int (r 1), .int (r 2), .int (r 3), .int (r 4), .int (r 5), .int (r 6)]))] H → va_D A [(aR, .inr (5, [.int (r 0), .int (r 1), .int (r 2), .int (r 3), .int (r 4), .int (r 5), .int (r 6)]))] → va_S A s.heap H locs → lv_has ls 7 [(0, .ref aR), (1, .int x1), (2, .int x2), (3, .int x3), (4, .int x4), (5, .int x5)] → W p l e rmX5_gameWinner s m args below meth c H locs 0 0 (MQ below (qI (dC, dI) (q_T cI cJ cZ) [(aR, .inr (5, [.int (r 0), .int (r 1), .int (r 2), .int (r 3), .int (r 4), .int (r 5), .int (r 6)]))] R A) args s 0 0 A) (F0 m 69 ls []) := by
  obtain ⟨hx, hb, hml, hown, hts, hrt, hlk, hK, hX, hA⟩ := id C0
  intro H locs ls hP hD hS hl
  refine lv_iconst (v := 0) hx hb dX5_gameWinner_69 (by decide) ?_
  exact B_X5_gameWinner_70 C0 hf H locs ls hP hD hS hl
set_option maxHeartbeats 4000000 in
set_option maxRecDepth 100000 in
theorem B_X5_gameWinner_65 {p : Program} {l : Launch} {e : Env} {s : State} {m : MethodId} {args : Array Value} {below : List Frame} {meth : Method} {c : Code} {A : Nat → Prop} {dC : Nat → ClassId} {dI : Nat → Nat → Nat} {cI cJ cZ : ClassId} {aR : Nat} (C0 : q_C p s m args meth c (dC, dI) (q_T cI cJ cZ) A RX5 wsX5_gameWinner cX5_gameWinner 7 (some .int)) {x1 : Int32} {x2 : Int32} {x3 : Int32} {x4 : Int32} {x5 : Int32} {r : (Nat → Int32)} {R : Int32} (hf : b_X5_gameWinner_65 x1 x2 x3 x4 x5 r = some R) : ∀ (H : Heap) (locs : List Loc) (ls : Array Slot), va_P (dC, dI) vwCl [(aR, .inr (5, [.int (r 0), .int (r 1), .int (r 2), .int (r 3), .int (r 4), .int (r 5), .int (r 6)]))] H → va_D A [(aR, .inr (5, [.int (r 0), .int (r 1), .int (r 2), .int (r 3), .int (r 4), .int (r 5), .int (r 6)]))] → va_S A s.heap H locs → lv_has ls 7 [(0, .ref aR), (1, .int x1), (2, .int x2), (3, .int x3), (4, .int x4), (5, .int x5)] → W p l e rmX5_gameWinner s m args below meth c H locs 0 0 (MQ below (qI (dC, dI) (q_T cI cJ cZ) [(aR, .inr (5, [.int (r 0), .int (r 1), .int (r 2), .int (r 3), .int (r 4), .int (r 5), .int (r 6)]))] R A) args s 0 0 A) (F0 m 65 ls []) := by
  obtain ⟨hx, hb, hml, hown, hts, hrt, hlk, hK, hX, hA⟩ := id C0
  intro H locs ls hP hD hS hl
  refine lv_iconst (v := 1) hx hb dX5_gameWinner_65 (by decide) ?_
  refine lv_goto (tgt := 70) hx hb dX5_gameWinner_66 (by decide) ?_
  exact B_X5_gameWinner_70 C0 hf H locs ls hP hD hS hl
set_option maxHeartbeats 4000000 in
set_option maxRecDepth 100000 in
theorem B_X5_gameWinner_37 {p : Program} {l : Launch} {e : Env} {s : State} {m : MethodId} {args : Array Value} {below : List Frame} {meth : Method} {c : Code} {A : Nat → Prop} {dC : Nat → ClassId} {dI : Nat → Nat → Nat} {cI cJ cZ : ClassId} {aR : Nat} (C0 : q_C p s m args meth c (dC, dI) (q_T cI cJ cZ) A RX5 wsX5_gameWinner cX5_gameWinner 7 (some .int)) {x1 : Int32} {x2 : Int32} {x3 : Int32} {x4 : Int32} {x5 : Int32} {s0 : Int32} {r : (Nat → Int32)} {R : Int32} (hf : b_X5_gameWinner_37 x1 x2 x3 x4 x5 s0 r = some R) : ∀ (H : Heap) (locs : List Loc) (ls : Array Slot), va_P (dC, dI) vwCl [(aR, .inr (5, [.int (r 0), .int (r 1), .int (r 2), .int (r 3), .int (r 4), .int (r 5), .int (r 6)]))] H → va_D A [(aR, .inr (5, [.int (r 0), .int (r 1), .int (r 2), .int (r 3), .int (r 4), .int (r 5), .int (r 6)]))] → va_S A s.heap H locs → lv_has ls 7 [(0, .ref aR), (1, .int x1), (2, .int x2), (3, .int x3), (4, .int x4), (5, .int x5)] → W p l e rmX5_gameWinner s m args below meth c H locs 0 0 (MQ below (qI (dC, dI) (q_T cI cJ cZ) [(aR, .inr (5, [.int (r 0), .int (r 1), .int (r 2), .int (r 3), .int (r 4), .int (r 5), .int (r 6)]))] R A) args s 0 0 A) (F0 m 37 ls [.int s0]) := by
  obtain ⟨hx, hb, hml, hown, hts, hrt, hlk, hK, hX, hA⟩ := id C0
  intro H locs ls hP hD hS hl
  refine lv_istore (lv' := [(6, .int s0), (0, .ref aR), (1, .int x1), (2, .int x2), (3, .int x3), (4, .int x4), (5, .int x5)]) hx hb dX5_gameWinner_37 hl (by decide) rfl (fun ls hl => ?_)
  refine lv_iload_n hx hb dX5_gameWinner_39 rfl (lv_at hl 2 rfl) ?_
  refine lv_iconst (v := 1) hx hb dX5_gameWinner_40 (by decide) ?_
  refine lv_icmp_lt (tgt := 72) hx hb dX5_gameWinner_41 (by decide) (fun hc9 => ?_) (fun hc9 => ?_)
  · have hf := q_if hf hc9
    exact B_X5_gameWinner_72 C0 hf H locs ls hP hD hS (lv_sub hl [1, 2, 3, 4, 5, 6, 0] rfl)
  · have hf := q_nif hf hc9
    refine lv_iload hx hb dX5_gameWinner_44 (lv_at hl 0 rfl) ?_
    refine lv_if_ne (tgt := 65) hx hb dX5_gameWinner_46 (by decide) (fun hc10 => ?_) (fun hc10 => ?_)
    · have hf := q_nif hf hc10
      exact B_X5_gameWinner_65 C0 hf H locs ls hP hD hS (lv_sub hl [1, 2, 3, 4, 5, 6] rfl)
    · have hf := q_if hf hc10
      refine lv_iload hx hb dX5_gameWinner_49 (lv_at hl 5 rfl) ?_
      refine lv_aload_n hx hb dX5_gameWinner_51 rfl (lv_at hl 1 rfl) ?_
      refine q_get (TT := TX5) C0 in_X5_gameWinner_X5 2 m_X5_gameWinner_f18 hP 0 rfl rfl (by decide) rfl rfl dX5_gameWinner_52 ?_
      refine lv_icmp_lt (tgt := 69) hx hb dX5_gameWinner_55 (by decide) (fun hc11 => ?_) (fun hc11 => ?_)
      · have hf := q_if hf hc11
        exact B_X5_gameWinner_69 C0 hf H locs ls hP hD hS (lv_sub hl [1, 2, 3, 4, 5, 6] rfl)
      · have hf := q_nif hf hc11
        refine lv_iload hx hb dX5_gameWinner_58 (lv_at hl 5 rfl) ?_
        refine lv_iload hx hb dX5_gameWinner_60 (lv_at hl 6 rfl) ?_
        refine lv_icmp_le (tgt := 69) hx hb dX5_gameWinner_62 (by decide) (fun hc12 => ?_) (fun hc12 => ?_)
        · have hf := q_if hf hc12
          exact B_X5_gameWinner_69 C0 hf H locs ls hP hD hS (lv_sub hl [1, 2, 3, 4, 5, 6] rfl)
        · have hf := q_nif hf hc12
          exact B_X5_gameWinner_65 C0 hf H locs ls hP hD hS (lv_sub hl [1, 2, 3, 4, 5, 6] rfl)
set_option maxHeartbeats 4000000 in
set_option maxRecDepth 100000 in
theorem B_X5_gameWinner_36 {p : Program} {l : Launch} {e : Env} {s : State} {m : MethodId} {args : Array Value} {below : List Frame} {meth : Method} {c : Code} {A : Nat → Prop} {dC : Nat → ClassId} {dI : Nat → Nat → Nat} {cI cJ cZ : ClassId} {aR : Nat} (C0 : q_C p s m args meth c (dC, dI) (q_T cI cJ cZ) A RX5 wsX5_gameWinner cX5_gameWinner 7 (some .int)) {x1 : Int32} {x2 : Int32} {x3 : Int32} {x4 : Int32} {x5 : Int32} {r : (Nat → Int32)} {R : Int32} (hf : b_X5_gameWinner_36 x1 x2 x3 x4 x5 r = some R) : ∀ (H : Heap) (locs : List Loc) (ls : Array Slot), va_P (dC, dI) vwCl [(aR, .inr (5, [.int (r 0), .int (r 1), .int (r 2), .int (r 3), .int (r 4), .int (r 5), .int (r 6)]))] H → va_D A [(aR, .inr (5, [.int (r 0), .int (r 1), .int (r 2), .int (r 3), .int (r 4), .int (r 5), .int (r 6)]))] → va_S A s.heap H locs → lv_has ls 7 [(0, .ref aR), (1, .int x1), (2, .int x2), (3, .int x3), (4, .int x4), (5, .int x5)] → W p l e rmX5_gameWinner s m args below meth c H locs 0 0 (MQ below (qI (dC, dI) (q_T cI cJ cZ) [(aR, .inr (5, [.int (r 0), .int (r 1), .int (r 2), .int (r 3), .int (r 4), .int (r 5), .int (r 6)]))] R A) args s 0 0 A) (F0 m 36 ls []) := by
  obtain ⟨hx, hb, hml, hown, hts, hrt, hlk, hK, hX, hA⟩ := id C0
  intro H locs ls hP hD hS hl
  refine lv_iconst (v := 0) hx hb dX5_gameWinner_36 (by decide) ?_
  exact B_X5_gameWinner_37 C0 hf H locs ls hP hD hS hl
set_option maxHeartbeats 4000000 in
set_option maxRecDepth 100000 in
theorem B_X5_gameWinner_0 {p : Program} {l : Launch} {e : Env} {s : State} {m : MethodId} {args : Array Value} {below : List Frame} {meth : Method} {c : Code} {A : Nat → Prop} {dC : Nat → ClassId} {dI : Nat → Nat → Nat} {cI cJ cZ : ClassId} {aR : Nat} (C0 : q_C p s m args meth c (dC, dI) (q_T cI cJ cZ) A RX5 wsX5_gameWinner cX5_gameWinner 7 (some .int)) {x1 : Int32} {x2 : Int32} {x3 : Int32} {r : (Nat → Int32)} {R : Int32} (hf : f_X5_gameWinner x1 x2 x3 r = some R) : ∀ (H : Heap) (locs : List Loc) (ls : Array Slot), va_P (dC, dI) vwCl [(aR, .inr (5, [.int (r 0), .int (r 1), .int (r 2), .int (r 3), .int (r 4), .int (r 5), .int (r 6)]))] H → va_D A [(aR, .inr (5, [.int (r 0), .int (r 1), .int (r 2), .int (r 3), .int (r 4), .int (r 5), .int (r 6)]))] → va_S A s.heap H locs → lv_has ls 7 [(0, .ref aR), (1, .int x1), (2, .int x2), (3, .int x3)] → W p l e rmX5_gameWinner s m args below meth c H locs 0 0 (MQ below (qI (dC, dI) (q_T cI cJ cZ) [(aR, .inr (5, [.int (r 0), .int (r 1), .int (r 2), .int (r 3), .int (r 4), .int (r 5), .int (r 6)]))] R A) args s 0 0 A) (F0 m 0 ls []) := by
  obtain ⟨hx, hb, hml, hown, hts, hrt, hlk, hK, hX, hA⟩ := id C0
  intro H locs ls hP hD hS hl
  refine lv_iload_n hx hb dX5_gameWinner_0 rfl (lv_at hl 2 rfl) ?_
  refine lv_iload_n hx hb dX5_gameWinner_1 rfl (lv_at hl 3 rfl) ?_
  refine q_max C0 hl.1 m_X5_gameWinner_l37 m_X5_gameWinner_stmax m_X5_gameWinner_imath m_X5_gameWinner_cmax (Nat.le_of_ble_eq_true rfl) (Nat.le_of_ble_eq_true rfl) dX5_gameWinner_2 ?_
  refine lv_istore (lv' := [(4, .int (if x2 < x3 then x3 else x2)), (0, .ref aR), (1, .int x1), (2, .int x2), (3, .int x3)]) hx hb dX5_gameWinner_5 hl (by decide) rfl (fun ls hl => ?_)
  refine lv_iload_n hx hb dX5_gameWinner_7 rfl (lv_at hl 3 rfl) ?_
  refine lv_iload_n hx hb dX5_gameWinner_8 rfl (lv_at hl 4 rfl) ?_
  refine q_min C0 hl.1 m_X5_gameWinner_l43 m_X5_gameWinner_stmin m_X5_gameWinner_imath m_X5_gameWinner_cmin (Nat.le_of_ble_eq_true rfl) (Nat.le_of_ble_eq_true rfl) dX5_gameWinner_9 ?_
  refine lv_istore (lv' := [(5, .int (if x3 < x2 then x3 else x2)), (4, .int (if x2 < x3 then x3 else x2)), (0, .ref aR), (1, .int x1), (2, .int x2), (3, .int x3)]) hx hb dX5_gameWinner_12 hl (by decide) rfl (fun ls hl => ?_)
  refine lv_iload hx hb dX5_gameWinner_14 (lv_at hl 1 rfl) ?_
  refine lv_aload_n hx hb dX5_gameWinner_16 rfl (lv_at hl 2 rfl) ?_
  refine q_get (TT := TX5) C0 in_X5_gameWinner_X5 2 m_X5_gameWinner_f18 hP 0 rfl rfl (by decide) rfl rfl dX5_gameWinner_17 ?_
  refine lv_icmp_lt (tgt := 36) hx hb dX5_gameWinner_20 (by decide) (fun hc13 => ?_) (fun hc13 => ?_)
  · have hf := q_if hf hc13
    exact B_X5_gameWinner_36 C0 hf H locs ls hP hD hS (lv_sub hl [2, 3, 4, 5, 1, 0] rfl)
  · have hf := q_nif hf hc13
    refine lv_iload hx hb dX5_gameWinner_23 (lv_at hl 1 rfl) ?_
    refine lv_iload hx hb dX5_gameWinner_25 (lv_at hl 0 rfl) ?_
    refine lv_isub hx hb dX5_gameWinner_27 ?_
    refine lv_iconst (v := 2) hx hb dX5_gameWinner_28 (by decide) ?_
    refine lv_icmp_lt (tgt := 36) hx hb dX5_gameWinner_29 (by decide) (fun hc14 => ?_) (fun hc14 => ?_)
    · have hf := q_if hf hc14
      exact B_X5_gameWinner_36 C0 hf H locs ls hP hD hS (lv_sub hl [2, 3, 4, 5, 1, 0] rfl)
    · have hf := q_nif hf hc14
      refine lv_iconst (v := 1) hx hb dX5_gameWinner_32 (by decide) ?_
      refine lv_goto (tgt := 37) hx hb dX5_gameWinner_33 (by decide) ?_
      exact B_X5_gameWinner_37 C0 hf H locs ls hP hD hS (lv_sub hl [2, 3, 4, 5, 1, 0] rfl)
set_option maxHeartbeats 4000000 in
set_option maxRecDepth 100000 in
theorem c_X5_gameWinner {l : Launch} {dC : Nat → ClassId} {dI : Nat → Nat → Nat} {cI cJ cZ : ClassId} {aR : Nat} {x1 : Int32} {x2 : Int32} {x3 : Int32} {r : (Nat → Int32)} {R : Int32} (hf : f_X5_gameWinner x1 x2 x3 r = some R) : q_M l yX5_gameWinner wsX5_gameWinner rmX5_gameWinner (dC, dI) (q_T cI cJ cZ) [.ref aR, .int x1, .int x2, .int x3] [(aR, .inr (5, [.int (r 0), .int (r 1), .int (r 2), .int (r 3), .int (r 4), .int (r 5), .int (r 6)]))] (qI (dC, dI) (q_T cI cJ cZ) [(aR, .inr (5, [.int (r 0), .int (r 1), .int (r 2), .int (r 3), .int (r 4), .int (r 5), .int (r 6)]))] R) := by
  refine q_body (cc := cX5_gameWinner) (maxL := 7) (ret := (some .int)) (by decide) rfl (Nat.le_of_ble_eq_true rfl) ?_
  intro p e s m args below meth c A C0 ls hP hD hS hl
  have hl : lv_has ls 7 [(0, .ref aR), (1, .int x1), (2, .int x2), (3, .int x3)] := hl
  exact B_X5_gameWinner_0 C0 hf s.heap [] ls hP hD hS hl

/-! ## RungPlay$Rules.setWinner -/
abbrev rmX5_setWinner : Room := { frames := 1, cells := 0, slots := 0, locals := 21 }
theorem m_X5_setWinner_f21 : Cond.fieldLink RX5 21 RX5 "toGames" "I" ∈ wsX5_setWinner := by decide +kernel
theorem in_X5_setWinner_X5 : ∀ w ∈ wsX50, w ∈ wsX5_setWinner := by decide +kernel
theorem m_X5_setWinner_l37 : Cond.methodLink RX5 37 Lib.Math.max.name ∈ wsX5_setWinner := by decide +kernel
theorem m_X5_setWinner_stmax : Cond.static Lib.Math.max.name ∈ wsX5_setWinner := by decide +kernel
theorem m_X5_setWinner_imath : Cond.initialized "java/lang/Math" ∈ wsX5_setWinner := by decide +kernel
theorem m_X5_setWinner_cmax : Cond.code Lib.Math.max.name Lib.Math.max.code 2 (some .int) ∈ wsX5_setWinner := by decide +kernel
theorem m_X5_setWinner_l49 : Cond.methodLink RX5 49 Lib.Math.abs.name ∈ wsX5_setWinner := by decide +kernel
theorem m_X5_setWinner_stabs : Cond.static Lib.Math.abs.name ∈ wsX5_setWinner := by decide +kernel
theorem m_X5_setWinner_cabs : Cond.code Lib.Math.abs.name Lib.Math.abs.code 1 (some .int) ∈ wsX5_setWinner := by decide +kernel
def b_X5_setWinner_56 (x1 : Int32) (x2 : Int32) (r : (Nat → Int32)) : Option (Int32) :=
  (q_b1 (f_X5_leader x1 x2) (fun r1 => (some r1)))
def b_X5_setWinner_45 (x1 : Int32) (x2 : Int32) (x3 : Int32) (s0 : Int32) (r : (Nat → Int32)) : Option (Int32) :=
  (if x3 = 0 then (if s0 = 0 then (some 0) else (b_X5_setWinner_56 x1 x2 r)) else (b_X5_setWinner_56 x1 x2 r))
def b_X5_setWinner_27 (x1 : Int32) (x2 : Int32) (s0 : Int32) (r : (Nat → Int32)) : Option (Int32) :=
  (if (x1 + x2) ≤ (2 * (r 3)) then (b_X5_setWinner_45 x1 x2 s0 0 r) else (b_X5_setWinner_45 x1 x2 s0 1 r))
def b_X5_setWinner_26 (x1 : Int32) (x2 : Int32) (r : (Nat → Int32)) : Option (Int32) :=
  (b_X5_setWinner_27 x1 x2 0 r)
def f_X5_setWinner (x1 : Int32) (x2 : Int32) (r : (Nat → Int32)) : Option (Int32) :=
  (if (if x1 < x2 then x2 else x1) < (r 3) then (b_X5_setWinner_26 x1 x2 r) else (if (if 0 ≤ (x1 - x2) then (x1 - x2) else 0 - (x1 - x2)) < 2 then (b_X5_setWinner_26 x1 x2 r) else (b_X5_setWinner_27 x1 x2 1 r)))
set_option maxHeartbeats 4000000 in
set_option maxRecDepth 100000 in
theorem B_X5_setWinner_56 {p : Program} {l : Launch} {e : Env} {s : State} {m : MethodId} {args : Array Value} {below : List Frame} {meth : Method} {c : Code} {A : Nat → Prop} {dC : Nat → ClassId} {dI : Nat → Nat → Nat} {cI cJ cZ : ClassId} {aR : Nat} (C0 : q_C p s m args meth c (dC, dI) (q_T cI cJ cZ) A RX5 wsX5_setWinner cX5_setWinner 5 (some .int)) {x1 : Int32} {x2 : Int32} {r : (Nat → Int32)} {R : Int32} (hf : b_X5_setWinner_56 x1 x2 r = some R) : ∀ (H : Heap) (locs : List Loc) (ls : Array Slot), va_P (dC, dI) vwCl [(aR, .inr (5, [.int (r 0), .int (r 1), .int (r 2), .int (r 3), .int (r 4), .int (r 5), .int (r 6)]))] H → va_D A [(aR, .inr (5, [.int (r 0), .int (r 1), .int (r 2), .int (r 3), .int (r 4), .int (r 5), .int (r 6)]))] → va_S A s.heap H locs → lv_has ls 5 [(1, .int x1), (2, .int x2)] → W p l e rmX5_setWinner s m args below meth c H locs 0 0 (MQ below (qI (dC, dI) (q_T cI cJ cZ) [(aR, .inr (5, [.int (r 0), .int (r 1), .int (r 2), .int (r 3), .int (r 4), .int (r 5), .int (r 6)]))] R A) args s 0 0 A) (F0 m 56 ls []) := by
  obtain ⟨hx, hb, hml, hown, hts, hrt, hlk, hK, hX, hA⟩ := id C0
  intro H locs ls hP hD hS hl
  refine lv_iload_n hx hb dX5_setWinner_56 rfl (lv_at hl 0 rfl) ?_
  refine lv_iload_n hx hb dX5_setWinner_57 rfl (lv_at hl 1 rfl) ?_
  obtain ⟨r1, hg2, hf⟩ := q_e1 hf
  refine q_endI (wc := []) (wr := [(aR, .inr (5, [.int (r 0), .int (r 1), .int (r 2), .int (r 3), .int (r 4), .int (r 5), .int (r 6)]))]) (w1 := []) (rv := r1) C0 hP hD hS [] [0] rfl rfl (by decide) (by decide) (q_runS C0 (c_X5_leader (l := l) hg2) (va_cwS 2 hts gX5_setWinner_X5_leader rfl rfl rfl (by decide +kernel) ⟨Nat.le_of_ble_eq_true rfl, Nat.le_of_ble_eq_true rfl⟩) hP hD hS [] rfl (by decide) rfl rfl hl.1 (Nat.le_of_ble_eq_true rfl) dX5_setWinner_58) (fun H locs hP hD hS => ?_)
  have hP : va_P (dC, dI) vwCl [(aR, .inr (5, [.int (r 0), .int (r 1), .int (r 2), .int (r 3), .int (r 4), .int (r 5), .int (r 6)]))] H := hP
  have hD : va_D A [(aR, .inr (5, [.int (r 0), .int (r 1), .int (r 2), .int (r 3), .int (r 4), .int (r 5), .int (r 6)]))] := hD
  refine lv_goto (tgt := 65) hx hb dX5_setWinner_61 (by decide) ?_
  obtain rfl := Option.some.inj hf
  exact q_retI C0 hP hD hS dX5_setWinner_65
set_option maxHeartbeats 4000000 in
set_option maxRecDepth 100000 in
theorem B_X5_setWinner_45 {p : Program} {l : Launch} {e : Env} {s : State} {m : MethodId} {args : Array Value} {below : List Frame} {meth : Method} {c : Code} {A : Nat → Prop} {dC : Nat → ClassId} {dI : Nat → Nat → Nat} {cI cJ cZ : ClassId} {aR : Nat} (C0 : q_C p s m args meth c (dC, dI) (q_T cI cJ cZ) A RX5 wsX5_setWinner cX5_setWinner 5 (some .int)) {x1 : Int32} {x2 : Int32} {x3 : Int32} {s0 : Int32} {r : (Nat → Int32)} {R : Int32} (hf : b_X5_setWinner_45 x1 x2 x3 s0 r = some R) : ∀ (H : Heap) (locs : List Loc) (ls : Array Slot), va_P (dC, dI) vwCl [(aR, .inr (5, [.int (r 0), .int (r 1), .int (r 2), .int (r 3), .int (r 4), .int (r 5), .int (r 6)]))] H → va_D A [(aR, .inr (5, [.int (r 0), .int (r 1), .int (r 2), .int (r 3), .int (r 4), .int (r 5), .int (r 6)]))] → va_S A s.heap H locs → lv_has ls 5 [(1, .int x1), (2, .int x2), (3, .int x3)] → W p l e rmX5_setWinner s m args below meth c H locs 0 0 (MQ below (qI (dC, dI) (q_T cI cJ cZ) [(aR, .inr (5, [.int (r 0), .int (r 1), .int (r 2), .int (r 3), .int (r 4), .int (r 5), .int (r 6)]))] R A) args s 0 0 A) (F0 m 45 ls [.int s0]) := by
  obtain ⟨hx, hb, hml, hown, hts, hrt, hlk, hK, hX, hA⟩ := id C0
  intro H locs ls hP hD hS hl
  refine lv_istore (lv' := [(4, .int s0), (1, .int x1), (2, .int x2), (3, .int x3)]) hx hb dX5_setWinner_45 hl (by decide) rfl (fun ls hl => ?_)
  refine lv_iload_n hx hb dX5_setWinner_47 rfl (lv_at hl 3 rfl) ?_
  refine lv_if_ne (tgt := 56) hx hb dX5_setWinner_48 (by decide) (fun hc3 => ?_) (fun hc3 => ?_)
  · have hf := q_nif hf hc3
    exact B_X5_setWinner_56 C0 hf H locs ls hP hD hS (lv_sub hl [1, 2] rfl)
  · have hf := q_if hf hc3
    refine lv_iload hx hb dX5_setWinner_51 (lv_at hl 0 rfl) ?_
    refine lv_if_eq (tgt := 64) hx hb dX5_setWinner_53 (by decide) (fun hc4 => ?_) (fun hc4 => ?_)
    · have hf := q_if hf hc4
      refine lv_iconst (v := 0) hx hb dX5_setWinner_64 (by decide) ?_
      obtain rfl := Option.some.inj hf
      exact q_retI C0 hP hD hS dX5_setWinner_65
    · have hf := q_nif hf hc4
      exact B_X5_setWinner_56 C0 hf H locs ls hP hD hS (lv_sub hl [1, 2] rfl)
set_option maxHeartbeats 4000000 in
set_option maxRecDepth 100000 in
theorem B_X5_setWinner_27 {p : Program} {l : Launch} {e : Env} {s : State} {m : MethodId} {args : Array Value} {below : List Frame} {meth : Method} {c : Code} {A : Nat → Prop} {dC : Nat → ClassId} {dI : Nat → Nat → Nat} {cI cJ cZ : ClassId} {aR : Nat} (C0 : q_C p s m args meth c (dC, dI) (q_T cI cJ cZ) A RX5 wsX5_setWinner cX5_setWinner 5 (some .int)) {x1 : Int32} {x2 : Int32} {s0 : Int32} {r : (Nat → Int32)} {R : Int32} (hf : b_X5_setWinner_27 x1 x2 s0 r = some R) : ∀ (H : Heap) (locs : List Loc) (ls : Array Slot), va_P (dC, dI) vwCl [(aR, .inr (5, [.int (r 0), .int (r 1), .int (r 2), .int (r 3), .int (r 4), .int (r 5), .int (r 6)]))] H → va_D A [(aR, .inr (5, [.int (r 0), .int (r 1), .int (r 2), .int (r 3), .int (r 4), .int (r 5), .int (r 6)]))] → va_S A s.heap H locs → lv_has ls 5 [(0, .ref aR), (1, .int x1), (2, .int x2)] → W p l e rmX5_setWinner s m args below meth c H locs 0 0 (MQ below (qI (dC, dI) (q_T cI cJ cZ) [(aR, .inr (5, [.int (r 0), .int (r 1), .int (r 2), .int (r 3), .int (r 4), .int (r 5), .int (r 6)]))] R A) args s 0 0 A) (F0 m 27 ls [.int s0]) := by
  obtain ⟨hx, hb, hml, hown, hts, hrt, hlk, hK, hX, hA⟩ := id C0
  intro H locs ls hP hD hS hl
  refine lv_istore_n (lv' := [(3, .int s0), (0, .ref aR), (1, .int x1), (2, .int x2)]) hx hb dX5_setWinner_27 rfl hl (by decide) rfl (fun ls hl => ?_)
  refine lv_iload_n hx hb dX5_setWinner_28 rfl (lv_at hl 2 rfl) ?_
  refine lv_iload_n hx hb dX5_setWinner_29 rfl (lv_at hl 3 rfl) ?_
  refine lv_iadd hx hb dX5_setWinner_30 ?_
  refine lv_iconst (v := 2) hx hb dX5_setWinner_31 (by decide) ?_
  refine lv_aload_n hx hb dX5_setWinner_32 rfl (lv_at hl 1 rfl) ?_
  refine q_get (TT := TX5) C0 in_X5_setWinner_X5 3 m_X5_setWinner_f21 hP 0 rfl rfl (by decide) rfl rfl dX5_setWinner_33 ?_
  refine lv_imul hx hb dX5_setWinner_36 ?_
  refine lv_icmp_le (tgt := 44) hx hb dX5_setWinner_37 (by decide) (fun hc5 => ?_) (fun hc5 => ?_)
  · have hf := q_if hf hc5
    refine lv_iconst (v := 0) hx hb dX5_setWinner_44 (by decide) ?_
    exact B_X5_setWinner_45 C0 hf H locs ls hP hD hS (lv_sub hl [2, 3, 0] rfl)
  · have hf := q_nif hf hc5
    refine lv_iconst (v := 1) hx hb dX5_setWinner_40 (by decide) ?_
    refine lv_goto (tgt := 45) hx hb dX5_setWinner_41 (by decide) ?_
    exact B_X5_setWinner_45 C0 hf H locs ls hP hD hS (lv_sub hl [2, 3, 0] rfl)
set_option maxHeartbeats 4000000 in
set_option maxRecDepth 100000 in
theorem B_X5_setWinner_26 {p : Program} {l : Launch} {e : Env} {s : State} {m : MethodId} {args : Array Value} {below : List Frame} {meth : Method} {c : Code} {A : Nat → Prop} {dC : Nat → ClassId} {dI : Nat → Nat → Nat} {cI cJ cZ : ClassId} {aR : Nat} (C0 : q_C p s m args meth c (dC, dI) (q_T cI cJ cZ) A RX5 wsX5_setWinner cX5_setWinner 5 (some .int)) {x1 : Int32} {x2 : Int32} {r : (Nat → Int32)} {R : Int32} (hf : b_X5_setWinner_26 x1 x2 r = some R) : ∀ (H : Heap) (locs : List Loc) (ls : Array Slot), va_P (dC, dI) vwCl [(aR, .inr (5, [.int (r 0), .int (r 1), .int (r 2), .int (r 3), .int (r 4), .int (r 5), .int (r 6)]))] H → va_D A [(aR, .inr (5, [.int (r 0), .int (r 1), .int (r 2), .int (r 3), .int (r 4), .int (r 5), .int (r 6)]))] → va_S A s.heap H locs → lv_has ls 5 [(0, .ref aR), (1, .int x1), (2, .int x2)] → W p l e rmX5_setWinner s m args below meth c H locs 0 0 (MQ below (qI (dC, dI) (q_T cI cJ cZ) [(aR, .inr (5, [.int (r 0), .int (r 1), .int (r 2), .int (r 3), .int (r 4), .int (r 5), .int (r 6)]))] R A) args s 0 0 A) (F0 m 26 ls []) := by
  obtain ⟨hx, hb, hml, hown, hts, hrt, hlk, hK, hX, hA⟩ := id C0
  intro H locs ls hP hD hS hl
  refine lv_iconst (v := 0) hx hb dX5_setWinner_26 (by decide) ?_
  exact B_X5_setWinner_27 C0 hf H locs ls hP hD hS hl
set_option maxHeartbeats 4000000 in
set_option maxRecDepth 100000 in
theorem B_X5_setWinner_0 {p : Program} {l : Launch} {e : Env} {s : State} {m : MethodId} {args : Array Value} {below : List Frame} {meth : Method} {c : Code} {A : Nat → Prop} {dC : Nat → ClassId} {dI : Nat → Nat → Nat} {cI cJ cZ : ClassId} {aR : Nat} (C0 : q_C p s m args meth c (dC, dI) (q_T cI cJ cZ) A RX5 wsX5_setWinner cX5_setWinner 5 (some .int)) {x1 : Int32} {x2 : Int32} {r : (Nat → Int32)} {R : Int32} (hf : f_X5_setWinner x1 x2 r = some R) : ∀ (H : Heap) (locs : List Loc) (ls : Array Slot), va_P (dC, dI) vwCl [(aR, .inr (5, [.int (r 0), .int (r 1), .int (r 2), .int (r 3), .int (r 4), .int (r 5), .int (r 6)]))] H → va_D A [(aR, .inr (5, [.int (r 0), .int (r 1), .int (r 2), .int (r 3), .int (r 4), .int (r 5), .int (r 6)]))] → va_S A s.heap H locs → lv_has ls 5 [(0, .ref aR), (1, .int x1), (2, .int x2)] → W p l e rmX5_setWinner s m args below meth c H locs 0 0 (MQ below (qI (dC, dI) (q_T cI cJ cZ) [(aR, .inr (5, [.int (r 0), .int (r 1), .int (r 2), .int (r 3), .int (r 4), .int (r 5), .int (r 6)]))] R A) args s 0 0 A) (F0 m 0 ls []) := by
  obtain ⟨hx, hb, hml, hown, hts, hrt, hlk, hK, hX, hA⟩ := id C0
  intro H locs ls hP hD hS hl
  refine lv_iload_n hx hb dX5_setWinner_0 rfl (lv_at hl 1 rfl) ?_
  refine lv_iload_n hx hb dX5_setWinner_1 rfl (lv_at hl 2 rfl) ?_
  refine q_max C0 hl.1 m_X5_setWinner_l37 m_X5_setWinner_stmax m_X5_setWinner_imath m_X5_setWinner_cmax (Nat.le_of_ble_eq_true rfl) (Nat.le_of_ble_eq_true rfl) dX5_setWinner_2 ?_
  refine lv_aload_n hx hb dX5_setWinner_5 rfl (lv_at hl 0 rfl) ?_
  refine q_get (TT := TX5) C0 in_X5_setWinner_X5 3 m_X5_setWinner_f21 hP 0 rfl rfl (by decide) rfl rfl dX5_setWinner_6 ?_
  refine lv_icmp_lt (tgt := 26) hx hb dX5_setWinner_9 (by decide) (fun hc6 => ?_) (fun hc6 => ?_)
  · have hf := q_if hf hc6
    exact B_X5_setWinner_26 C0 hf H locs ls hP hD hS hl
  · have hf := q_nif hf hc6
    refine lv_iload_n hx hb dX5_setWinner_12 rfl (lv_at hl 1 rfl) ?_
    refine lv_iload_n hx hb dX5_setWinner_13 rfl (lv_at hl 2 rfl) ?_
    refine lv_isub hx hb dX5_setWinner_14 ?_
    refine q_abs C0 hl.1 m_X5_setWinner_l49 m_X5_setWinner_stabs m_X5_setWinner_imath m_X5_setWinner_cabs (Nat.le_of_ble_eq_true rfl) (Nat.le_of_ble_eq_true rfl) dX5_setWinner_15 ?_
    refine lv_iconst (v := 2) hx hb dX5_setWinner_18 (by decide) ?_
    refine lv_icmp_lt (tgt := 26) hx hb dX5_setWinner_19 (by decide) (fun hc7 => ?_) (fun hc7 => ?_)
    · have hf := q_if hf hc7
      exact B_X5_setWinner_26 C0 hf H locs ls hP hD hS hl
    · have hf := q_nif hf hc7
      refine lv_iconst (v := 1) hx hb dX5_setWinner_22 (by decide) ?_
      refine lv_goto (tgt := 27) hx hb dX5_setWinner_23 (by decide) ?_
      exact B_X5_setWinner_27 C0 hf H locs ls hP hD hS hl
set_option maxHeartbeats 4000000 in
set_option maxRecDepth 100000 in
theorem c_X5_setWinner {l : Launch} {dC : Nat → ClassId} {dI : Nat → Nat → Nat} {cI cJ cZ : ClassId} {aR : Nat} {x1 : Int32} {x2 : Int32} {r : (Nat → Int32)} {R : Int32} (hf : f_X5_setWinner x1 x2 r = some R) : q_M l yX5_setWinner wsX5_setWinner rmX5_setWinner (dC, dI) (q_T cI cJ cZ) [.ref aR, .int x1, .int x2] [(aR, .inr (5, [.int (r 0), .int (r 1), .int (r 2), .int (r 3), .int (r 4), .int (r 5), .int (r 6)]))] (qI (dC, dI) (q_T cI cJ cZ) [(aR, .inr (5, [.int (r 0), .int (r 1), .int (r 2), .int (r 3), .int (r 4), .int (r 5), .int (r 6)]))] R) := by
  refine q_body (cc := cX5_setWinner) (maxL := 5) (ret := (some .int)) (by decide) rfl (Nat.le_of_ble_eq_true rfl) ?_
  intro p e s m args below meth c A C0 ls hP hD hS hl
  have hl : lv_has ls 5 [(0, .ref aR), (1, .int x1), (2, .int x2)] := hl
  exact B_X5_setWinner_0 C0 hf s.heap [] ls hP hD hS hl

/-! ## RungPlay$Rules.matchWinner -/
abbrev rmX5_matchWinner : Room := { frames := 1, cells := 0, slots := 0, locals := 21 }
theorem m_X5_matchWinner_f24 : Cond.fieldLink RX5 24 RX5 "toSets" "I" ∈ wsX5_matchWinner := by decide +kernel
theorem in_X5_matchWinner_X5 : ∀ w ∈ wsX50, w ∈ wsX5_matchWinner := by decide +kernel
def b_X5_matchWinner_16 (x1 : Int32) (x2 : Int32) (r : (Nat → Int32)) : Option (Int32) :=
  (q_b1 (f_X5_leader x1 x2) (fun r1 => (some r1)))
def f_X5_matchWinner (x1 : Int32) (x2 : Int32) (r : (Nat → Int32)) : Option (Int32) :=
  (if (r 4) ≤ x1 then (b_X5_matchWinner_16 x1 x2 r) else (if x2 < (r 4) then (some 0) else (b_X5_matchWinner_16 x1 x2 r)))
set_option maxHeartbeats 4000000 in
set_option maxRecDepth 100000 in
theorem B_X5_matchWinner_16 {p : Program} {l : Launch} {e : Env} {s : State} {m : MethodId} {args : Array Value} {below : List Frame} {meth : Method} {c : Code} {A : Nat → Prop} {dC : Nat → ClassId} {dI : Nat → Nat → Nat} {cI cJ cZ : ClassId} {aR : Nat} (C0 : q_C p s m args meth c (dC, dI) (q_T cI cJ cZ) A RX5 wsX5_matchWinner cX5_matchWinner 3 (some .int)) {x1 : Int32} {x2 : Int32} {r : (Nat → Int32)} {R : Int32} (hf : b_X5_matchWinner_16 x1 x2 r = some R) : ∀ (H : Heap) (locs : List Loc) (ls : Array Slot), va_P (dC, dI) vwCl [(aR, .inr (5, [.int (r 0), .int (r 1), .int (r 2), .int (r 3), .int (r 4), .int (r 5), .int (r 6)]))] H → va_D A [(aR, .inr (5, [.int (r 0), .int (r 1), .int (r 2), .int (r 3), .int (r 4), .int (r 5), .int (r 6)]))] → va_S A s.heap H locs → lv_has ls 3 [(1, .int x1), (2, .int x2)] → W p l e rmX5_matchWinner s m args below meth c H locs 0 0 (MQ below (qI (dC, dI) (q_T cI cJ cZ) [(aR, .inr (5, [.int (r 0), .int (r 1), .int (r 2), .int (r 3), .int (r 4), .int (r 5), .int (r 6)]))] R A) args s 0 0 A) (F0 m 16 ls []) := by
  obtain ⟨hx, hb, hml, hown, hts, hrt, hlk, hK, hX, hA⟩ := id C0
  intro H locs ls hP hD hS hl
  refine lv_iload_n hx hb dX5_matchWinner_16 rfl (lv_at hl 0 rfl) ?_
  refine lv_iload_n hx hb dX5_matchWinner_17 rfl (lv_at hl 1 rfl) ?_
  obtain ⟨r1, hg2, hf⟩ := q_e1 hf
  refine q_endI (wc := []) (wr := [(aR, .inr (5, [.int (r 0), .int (r 1), .int (r 2), .int (r 3), .int (r 4), .int (r 5), .int (r 6)]))]) (w1 := []) (rv := r1) C0 hP hD hS [] [0] rfl rfl (by decide) (by decide) (q_runS C0 (c_X5_leader (l := l) hg2) (va_cwS 2 hts gX5_matchWinner_X5_leader rfl rfl rfl (by decide +kernel) ⟨Nat.le_of_ble_eq_true rfl, Nat.le_of_ble_eq_true rfl⟩) hP hD hS [] rfl (by decide) rfl rfl hl.1 (Nat.le_of_ble_eq_true rfl) dX5_matchWinner_18) (fun H locs hP hD hS => ?_)
  have hP : va_P (dC, dI) vwCl [(aR, .inr (5, [.int (r 0), .int (r 1), .int (r 2), .int (r 3), .int (r 4), .int (r 5), .int (r 6)]))] H := hP
  have hD : va_D A [(aR, .inr (5, [.int (r 0), .int (r 1), .int (r 2), .int (r 3), .int (r 4), .int (r 5), .int (r 6)]))] := hD
  refine lv_goto (tgt := 25) hx hb dX5_matchWinner_21 (by decide) ?_
  obtain rfl := Option.some.inj hf
  exact q_retI C0 hP hD hS dX5_matchWinner_25
set_option maxHeartbeats 4000000 in
set_option maxRecDepth 100000 in
theorem B_X5_matchWinner_0 {p : Program} {l : Launch} {e : Env} {s : State} {m : MethodId} {args : Array Value} {below : List Frame} {meth : Method} {c : Code} {A : Nat → Prop} {dC : Nat → ClassId} {dI : Nat → Nat → Nat} {cI cJ cZ : ClassId} {aR : Nat} (C0 : q_C p s m args meth c (dC, dI) (q_T cI cJ cZ) A RX5 wsX5_matchWinner cX5_matchWinner 3 (some .int)) {x1 : Int32} {x2 : Int32} {r : (Nat → Int32)} {R : Int32} (hf : f_X5_matchWinner x1 x2 r = some R) : ∀ (H : Heap) (locs : List Loc) (ls : Array Slot), va_P (dC, dI) vwCl [(aR, .inr (5, [.int (r 0), .int (r 1), .int (r 2), .int (r 3), .int (r 4), .int (r 5), .int (r 6)]))] H → va_D A [(aR, .inr (5, [.int (r 0), .int (r 1), .int (r 2), .int (r 3), .int (r 4), .int (r 5), .int (r 6)]))] → va_S A s.heap H locs → lv_has ls 3 [(0, .ref aR), (1, .int x1), (2, .int x2)] → W p l e rmX5_matchWinner s m args below meth c H locs 0 0 (MQ below (qI (dC, dI) (q_T cI cJ cZ) [(aR, .inr (5, [.int (r 0), .int (r 1), .int (r 2), .int (r 3), .int (r 4), .int (r 5), .int (r 6)]))] R A) args s 0 0 A) (F0 m 0 ls []) := by
  obtain ⟨hx, hb, hml, hown, hts, hrt, hlk, hK, hX, hA⟩ := id C0
  intro H locs ls hP hD hS hl
  refine lv_iload_n hx hb dX5_matchWinner_0 rfl (lv_at hl 1 rfl) ?_
  refine lv_aload_n hx hb dX5_matchWinner_1 rfl (lv_at hl 0 rfl) ?_
  refine q_get (TT := TX5) C0 in_X5_matchWinner_X5 4 m_X5_matchWinner_f24 hP 0 rfl rfl (by decide) rfl rfl dX5_matchWinner_2 ?_
  refine lv_icmp_ge (tgt := 16) hx hb dX5_matchWinner_5 (by decide) (fun hc3 => ?_) (fun hc3 => ?_)
  · have hf := q_if hf hc3
    exact B_X5_matchWinner_16 C0 hf H locs ls hP hD hS (lv_sub hl [1, 2] rfl)
  · have hf := q_nif hf hc3
    refine lv_iload_n hx hb dX5_matchWinner_8 rfl (lv_at hl 2 rfl) ?_
    refine lv_aload_n hx hb dX5_matchWinner_9 rfl (lv_at hl 0 rfl) ?_
    refine q_get (TT := TX5) C0 in_X5_matchWinner_X5 4 m_X5_matchWinner_f24 hP 0 rfl rfl (by decide) rfl rfl dX5_matchWinner_10 ?_
    refine lv_icmp_lt (tgt := 24) hx hb dX5_matchWinner_13 (by decide) (fun hc4 => ?_) (fun hc4 => ?_)
    · have hf := q_if hf hc4
      refine lv_iconst (v := 0) hx hb dX5_matchWinner_24 (by decide) ?_
      obtain rfl := Option.some.inj hf
      exact q_retI C0 hP hD hS dX5_matchWinner_25
    · have hf := q_nif hf hc4
      exact B_X5_matchWinner_16 C0 hf H locs ls hP hD hS (lv_sub hl [1, 2] rfl)
set_option maxHeartbeats 4000000 in
set_option maxRecDepth 100000 in
theorem c_X5_matchWinner {l : Launch} {dC : Nat → ClassId} {dI : Nat → Nat → Nat} {cI cJ cZ : ClassId} {aR : Nat} {x1 : Int32} {x2 : Int32} {r : (Nat → Int32)} {R : Int32} (hf : f_X5_matchWinner x1 x2 r = some R) : q_M l yX5_matchWinner wsX5_matchWinner rmX5_matchWinner (dC, dI) (q_T cI cJ cZ) [.ref aR, .int x1, .int x2] [(aR, .inr (5, [.int (r 0), .int (r 1), .int (r 2), .int (r 3), .int (r 4), .int (r 5), .int (r 6)]))] (qI (dC, dI) (q_T cI cJ cZ) [(aR, .inr (5, [.int (r 0), .int (r 1), .int (r 2), .int (r 3), .int (r 4), .int (r 5), .int (r 6)]))] R) := by
  refine q_body (cc := cX5_matchWinner) (maxL := 3) (ret := (some .int)) (by decide) rfl (Nat.le_of_ble_eq_true rfl) ?_
  intro p e s m args below meth c A C0 ls hP hD hS hl
  have hl : lv_has ls 3 [(0, .ref aR), (1, .int x1), (2, .int x2)] := hl
  exact B_X5_matchWinner_0 C0 hf s.heap [] ls hP hD hS hl

/-! ## RungPlay$Pair.clear -/
abbrev rmX3_clear : Room := { frames := 0, cells := 0, slots := 0, locals := 0 }
theorem m_X3_clear_f9 : Cond.fieldLink RX3 9 RX3 "ofA" "I" ∈ wsX3_clear := by decide +kernel
theorem in_X3_clear_X3 : ∀ w ∈ wsX30, w ∈ wsX3_clear := by decide +kernel
theorem m_X3_clear_f15 : Cond.fieldLink RX3 15 RX3 "ofB" "I" ∈ wsX3_clear := by decide +kernel
def f_X3_clear (pa : Int32) (pb : Int32) : Option (Int32 × Int32) :=
  (some (0, 0))
set_option maxHeartbeats 4000000 in
set_option maxRecDepth 100000 in
theorem B_X3_clear_0 {p : Program} {l : Launch} {e : Env} {s : State} {m : MethodId} {args : Array Value} {below : List Frame} {meth : Method} {c : Code} {A : Nat → Prop} {dC : Nat → ClassId} {dI : Nat → Nat → Nat} {cI cJ cZ : ClassId} {aP : Nat} (C0 : q_C p s m args meth c (dC, dI) (q_T cI cJ cZ) A RX3 wsX3_clear cX3_clear 1 none) {pa : Int32} {pb : Int32} {R : Int32 × Int32} (hf : f_X3_clear pa pb = some R) : ∀ (H : Heap) (locs : List Loc) (ls : Array Slot), va_P (dC, dI) vwCl [(aP, .inr (3, [.int pa, .int pb]))] H → va_D A [(aP, .inr (3, [.int pa, .int pb]))] → va_S A s.heap H locs → lv_has ls 1 [(0, .ref aP)] → W p l e rmX3_clear s m args below meth c H locs 0 0 (MQ below (qV (dC, dI) (q_T cI cJ cZ) [(aP, .inr (3, [.int R.1, .int R.2]))] A) args s 0 0 A) (F0 m 0 ls []) := by
  obtain ⟨hx, hb, hml, hown, hts, hrt, hlk, hK, hX, hA⟩ := id C0
  intro H locs ls hP hD hS hl
  refine lv_aload_n hx hb dX3_clear_0 rfl (lv_at hl 0 rfl) ?_
  refine lv_iconst (v := 0) hx hb dX3_clear_1 (by decide) ?_
  refine q_put (ty := .int) (TT := TX3) C0 in_X3_clear_X3 tyX3 tyX3_ok nmX3 0 m_X3_clear_f9 hP hD hS 0 rfl rfl (by decide) rfl rfl (by decide +kernel) rfl rfl (Nat.le_of_ble_eq_true rfl) dX3_clear_2 (fun H locs hP hD hS => ?_)
  have hP : va_P (dC, dI) vwCl [(aP, .inr (3, [.int 0, .int pb]))] H := hP
  have hD : va_D A [(aP, .inr (3, [.int 0, .int pb]))] := hD
  refine lv_aload_n hx hb dX3_clear_5 rfl (lv_at hl 0 rfl) ?_
  refine lv_iconst (v := 0) hx hb dX3_clear_6 (by decide) ?_
  refine q_put (ty := .int) (TT := TX3) C0 in_X3_clear_X3 tyX3 tyX3_ok nmX3 1 m_X3_clear_f15 hP hD hS 0 rfl rfl (by decide) rfl rfl (by decide +kernel) rfl rfl (Nat.le_of_ble_eq_true rfl) dX3_clear_7 (fun H locs hP hD hS => ?_)
  have hP : va_P (dC, dI) vwCl [(aP, .inr (3, [.int 0, .int 0]))] H := hP
  have hD : va_D A [(aP, .inr (3, [.int 0, .int 0]))] := hD
  obtain rfl := Option.some.inj hf
  exact q_retV C0 hP hD hS dX3_clear_10
set_option maxHeartbeats 4000000 in
set_option maxRecDepth 100000 in
theorem c_X3_clear {l : Launch} {dC : Nat → ClassId} {dI : Nat → Nat → Nat} {cI cJ cZ : ClassId} {aP : Nat} {pa : Int32} {pb : Int32} {R : Int32 × Int32} (hf : f_X3_clear pa pb = some R) : q_M l yX3_clear wsX3_clear rmX3_clear (dC, dI) (q_T cI cJ cZ) [.ref aP] [(aP, .inr (3, [.int pa, .int pb]))] (qV (dC, dI) (q_T cI cJ cZ) [(aP, .inr (3, [.int R.1, .int R.2]))]) := by
  refine q_body (cc := cX3_clear) (maxL := 1) (ret := none) (by decide) rfl (Nat.le_of_ble_eq_true rfl) ?_
  intro p e s m args below meth c A C0 ls hP hD hS hl
  have hl : lv_has ls 1 [(0, .ref aP)] := hl
  exact B_X3_clear_0 C0 hf s.heap [] ls hP hD hS hl

/-! ## RungPlay$Pair.oneMore -/
abbrev rmX3_oneMore : Room := { frames := 0, cells := 0, slots := 0, locals := 0 }
theorem m_X3_oneMore_f15 : Cond.fieldLink RX3 15 RX3 "ofB" "I" ∈ wsX3_oneMore := by decide +kernel
theorem in_X3_oneMore_X3 : ∀ w ∈ wsX30, w ∈ wsX3_oneMore := by decide +kernel
theorem m_X3_oneMore_f9 : Cond.fieldLink RX3 9 RX3 "ofA" "I" ∈ wsX3_oneMore := by decide +kernel
def f_X3_oneMore (x1 : Int32) (pa : Int32) (pb : Int32) : Option (Int32 × Int32) :=
  (if x1 = 0 then (some (pa + 1, pb)) else (some (pa, pb + 1)))
set_option maxHeartbeats 4000000 in
set_option maxRecDepth 100000 in
theorem B_X3_oneMore_0 {p : Program} {l : Launch} {e : Env} {s : State} {m : MethodId} {args : Array Value} {below : List Frame} {meth : Method} {c : Code} {A : Nat → Prop} {dC : Nat → ClassId} {dI : Nat → Nat → Nat} {cI cJ cZ : ClassId} {aP : Nat} (C0 : q_C p s m args meth c (dC, dI) (q_T cI cJ cZ) A RX3 wsX3_oneMore cX3_oneMore 2 none) {x1 : Int32} {pa : Int32} {pb : Int32} {R : Int32 × Int32} (hf : f_X3_oneMore x1 pa pb = some R) : ∀ (H : Heap) (locs : List Loc) (ls : Array Slot), va_P (dC, dI) vwCl [(aP, .inr (3, [.int pa, .int pb]))] H → va_D A [(aP, .inr (3, [.int pa, .int pb]))] → va_S A s.heap H locs → lv_has ls 2 [(0, .ref aP), (1, .int x1)] → W p l e rmX3_oneMore s m args below meth c H locs 0 0 (MQ below (qV (dC, dI) (q_T cI cJ cZ) [(aP, .inr (3, [.int R.1, .int R.2]))] A) args s 0 0 A) (F0 m 0 ls []) := by
  obtain ⟨hx, hb, hml, hown, hts, hrt, hlk, hK, hX, hA⟩ := id C0
  intro H locs ls hP hD hS hl
  refine lv_iload_n hx hb dX3_oneMore_0 rfl (lv_at hl 1 rfl) ?_
  refine lv_if_ne (tgt := 17) hx hb dX3_oneMore_1 (by decide) (fun hc1 => ?_) (fun hc1 => ?_)
  · have hf := q_nif hf hc1
    refine lv_aload_n hx hb dX3_oneMore_17 rfl (lv_at hl 0 rfl) ?_
    refine lv_dup hx hb dX3_oneMore_18 rfl ?_
    refine q_get (TT := TX3) C0 in_X3_oneMore_X3 1 m_X3_oneMore_f15 hP 0 rfl rfl (by decide) rfl rfl dX3_oneMore_19 ?_
    refine lv_iconst (v := 1) hx hb dX3_oneMore_22 (by decide) ?_
    refine lv_iadd hx hb dX3_oneMore_23 ?_
    refine q_put (ty := .int) (TT := TX3) C0 in_X3_oneMore_X3 tyX3 tyX3_ok nmX3 1 m_X3_oneMore_f15 hP hD hS 0 rfl rfl (by decide) rfl rfl (by decide +kernel) rfl rfl (Nat.le_of_ble_eq_true rfl) dX3_oneMore_24 (fun H locs hP hD hS => ?_)
    have hP : va_P (dC, dI) vwCl [(aP, .inr (3, [.int pa, .int (pb + 1)]))] H := hP
    have hD : va_D A [(aP, .inr (3, [.int pa, .int (pb + 1)]))] := hD
    obtain rfl := Option.some.inj hf
    exact q_retV C0 hP hD hS dX3_oneMore_27
  · have hf := q_if hf hc1
    refine lv_aload_n hx hb dX3_oneMore_4 rfl (lv_at hl 0 rfl) ?_
    refine lv_dup hx hb dX3_oneMore_5 rfl ?_
    refine q_get (TT := TX3) C0 in_X3_oneMore_X3 0 m_X3_oneMore_f9 hP 0 rfl rfl (by decide) rfl rfl dX3_oneMore_6 ?_
    refine lv_iconst (v := 1) hx hb dX3_oneMore_9 (by decide) ?_
    refine lv_iadd hx hb dX3_oneMore_10 ?_
    refine q_put (ty := .int) (TT := TX3) C0 in_X3_oneMore_X3 tyX3 tyX3_ok nmX3 0 m_X3_oneMore_f9 hP hD hS 0 rfl rfl (by decide) rfl rfl (by decide +kernel) rfl rfl (Nat.le_of_ble_eq_true rfl) dX3_oneMore_11 (fun H locs hP hD hS => ?_)
    have hP : va_P (dC, dI) vwCl [(aP, .inr (3, [.int (pa + 1), .int pb]))] H := hP
    have hD : va_D A [(aP, .inr (3, [.int (pa + 1), .int pb]))] := hD
    refine lv_goto (tgt := 27) hx hb dX3_oneMore_14 (by decide) ?_
    obtain rfl := Option.some.inj hf
    exact q_retV C0 hP hD hS dX3_oneMore_27
set_option maxHeartbeats 4000000 in
set_option maxRecDepth 100000 in
theorem c_X3_oneMore {l : Launch} {dC : Nat → ClassId} {dI : Nat → Nat → Nat} {cI cJ cZ : ClassId} {aP : Nat} {x1 : Int32} {pa : Int32} {pb : Int32} {R : Int32 × Int32} (hf : f_X3_oneMore x1 pa pb = some R) : q_M l yX3_oneMore wsX3_oneMore rmX3_oneMore (dC, dI) (q_T cI cJ cZ) [.ref aP, .int x1] [(aP, .inr (3, [.int pa, .int pb]))] (qV (dC, dI) (q_T cI cJ cZ) [(aP, .inr (3, [.int R.1, .int R.2]))]) := by
  refine q_body (cc := cX3_oneMore) (maxL := 2) (ret := none) (by decide) rfl (Nat.le_of_ble_eq_true rfl) ?_
  intro p e s m args below meth c A C0 ls hP hD hS hl
  have hl : lv_has ls 2 [(0, .ref aP), (1, .int x1)] := hl
  exact B_X3_oneMore_0 C0 hf s.heap [] ls hP hD hS hl

/-! ## RungPlay$Grid.holds -/
abbrev rmX1_holds : Room := { frames := 0, cells := 0, slots := 0, locals := 0 }
theorem m_X1_holds_f13 : Cond.fieldLink RX1 13 RX1 "side" "I" ∈ wsX1_holds := by decide +kernel
theorem in_X1_holds_X1 : ∀ w ∈ wsX10, w ∈ wsX1_holds := by decide +kernel
def b_X1_holds_30 (sd : Int32) (gn : Nat) (f : (Nat → Int64)) : Option (Int32) :=
  (some 0)
def f_X1_holds (x1 : Int32) (x2 : Int32) (sd : Int32) (gn : Nat) (f : (Nat → Int64)) : Option (Int32) :=
  (if x1 < 0 then (b_X1_holds_30 sd gn f) else (if sd ≤ x1 then (b_X1_holds_30 sd gn f) else (if x2 < 0 then (b_X1_holds_30 sd gn f) else (if sd ≤ x2 then (b_X1_holds_30 sd gn f) else (some 1)))))
set_option maxHeartbeats 4000000 in
set_option maxRecDepth 100000 in
theorem B_X1_holds_30 {p : Program} {l : Launch} {e : Env} {s : State} {m : MethodId} {args : Array Value} {below : List Frame} {meth : Method} {c : Code} {A : Nat → Prop} {dC : Nat → ClassId} {dI : Nat → Nat → Nat} {cI cJ cZ : ClassId} {aG aC : Nat} (C0 : q_C p s m args meth c (dC, dI) (q_T cI cJ cZ) A RX1 wsX1_holds cX1_holds 3 (some .boolean)) {sd : Int32} {gn : Nat} {f : (Nat → Int64)} {R : Int32} (hf : b_X1_holds_30 sd gn f = some R) : ∀ (H : Heap) (locs : List Loc) (ls : Array Slot), va_P (dC, dI) vwCl [(aG, .inr (1, [.int sd, .ref aC])), (aC, .inl (cJ, gn, .inr (.inl f)))] H → va_D A [(aG, .inr (1, [.int sd, .ref aC])), (aC, .inl (cJ, gn, .inr (.inl f)))] → va_S A s.heap H locs → lv_has ls 3 [] → W p l e rmX1_holds s m args below meth c H locs 0 0 (MQ below (qI (dC, dI) (q_T cI cJ cZ) [(aG, .inr (1, [.int sd, .ref aC])), (aC, .inl (cJ, gn, .inr (.inl f)))] R A) args s 0 0 A) (F0 m 30 ls []) := by
  obtain ⟨hx, hb, hml, hown, hts, hrt, hlk, hK, hX, hA⟩ := id C0
  intro H locs ls hP hD hS hl
  refine lv_iconst (v := 0) hx hb dX1_holds_30 (by decide) ?_
  obtain rfl := Option.some.inj hf
  exact q_retZ C0 (by rfl) hP hD hS dX1_holds_31
set_option maxHeartbeats 4000000 in
set_option maxRecDepth 100000 in
theorem B_X1_holds_0 {p : Program} {l : Launch} {e : Env} {s : State} {m : MethodId} {args : Array Value} {below : List Frame} {meth : Method} {c : Code} {A : Nat → Prop} {dC : Nat → ClassId} {dI : Nat → Nat → Nat} {cI cJ cZ : ClassId} {aG aC : Nat} (C0 : q_C p s m args meth c (dC, dI) (q_T cI cJ cZ) A RX1 wsX1_holds cX1_holds 3 (some .boolean)) {x1 : Int32} {x2 : Int32} {sd : Int32} {gn : Nat} {f : (Nat → Int64)} {R : Int32} (hf : f_X1_holds x1 x2 sd gn f = some R) : ∀ (H : Heap) (locs : List Loc) (ls : Array Slot), va_P (dC, dI) vwCl [(aG, .inr (1, [.int sd, .ref aC])), (aC, .inl (cJ, gn, .inr (.inl f)))] H → va_D A [(aG, .inr (1, [.int sd, .ref aC])), (aC, .inl (cJ, gn, .inr (.inl f)))] → va_S A s.heap H locs → lv_has ls 3 [(0, .ref aG), (1, .int x1), (2, .int x2)] → W p l e rmX1_holds s m args below meth c H locs 0 0 (MQ below (qI (dC, dI) (q_T cI cJ cZ) [(aG, .inr (1, [.int sd, .ref aC])), (aC, .inl (cJ, gn, .inr (.inl f)))] R A) args s 0 0 A) (F0 m 0 ls []) := by
  obtain ⟨hx, hb, hml, hown, hts, hrt, hlk, hK, hX, hA⟩ := id C0
  intro H locs ls hP hD hS hl
  refine lv_iconst (v := 0) hx hb dX1_holds_0 (by decide) ?_
  refine lv_iload_n hx hb dX1_holds_1 rfl (lv_at hl 1 rfl) ?_
  refine lv_icmp_gt (tgt := 30) hx hb dX1_holds_2 (by decide) (fun hc1 => ?_) (fun hc1 => ?_)
  · have hf := q_if hf hc1
    exact B_X1_holds_30 C0 hf H locs ls hP hD hS (lv_sub hl [] rfl)
  · have hf := q_nif hf hc1
    refine lv_iload_n hx hb dX1_holds_5 rfl (lv_at hl 1 rfl) ?_
    refine lv_aload_n hx hb dX1_holds_6 rfl (lv_at hl 0 rfl) ?_
    refine q_get (TT := TX1) C0 in_X1_holds_X1 0 m_X1_holds_f13 hP 0 rfl rfl (by decide) rfl rfl dX1_holds_7 ?_
    refine lv_icmp_ge (tgt := 30) hx hb dX1_holds_10 (by decide) (fun hc2 => ?_) (fun hc2 => ?_)
    · have hf := q_if hf hc2
      exact B_X1_holds_30 C0 hf H locs ls hP hD hS (lv_sub hl [] rfl)
    · have hf := q_nif hf hc2
      refine lv_iconst (v := 0) hx hb dX1_holds_13 (by decide) ?_
      refine lv_iload_n hx hb dX1_holds_14 rfl (lv_at hl 2 rfl) ?_
      refine lv_icmp_gt (tgt := 30) hx hb dX1_holds_15 (by decide) (fun hc3 => ?_) (fun hc3 => ?_)
      · have hf := q_if hf hc3
        exact B_X1_holds_30 C0 hf H locs ls hP hD hS (lv_sub hl [] rfl)
      · have hf := q_nif hf hc3
        refine lv_iload_n hx hb dX1_holds_18 rfl (lv_at hl 2 rfl) ?_
        refine lv_aload_n hx hb dX1_holds_19 rfl (lv_at hl 0 rfl) ?_
        refine q_get (TT := TX1) C0 in_X1_holds_X1 0 m_X1_holds_f13 hP 0 rfl rfl (by decide) rfl rfl dX1_holds_20 ?_
        refine lv_icmp_ge (tgt := 30) hx hb dX1_holds_23 (by decide) (fun hc4 => ?_) (fun hc4 => ?_)
        · have hf := q_if hf hc4
          exact B_X1_holds_30 C0 hf H locs ls hP hD hS (lv_sub hl [] rfl)
        · have hf := q_nif hf hc4
          refine lv_iconst (v := 1) hx hb dX1_holds_26 (by decide) ?_
          refine lv_goto (tgt := 31) hx hb dX1_holds_27 (by decide) ?_
          obtain rfl := Option.some.inj hf
          exact q_retZ C0 (by rfl) hP hD hS dX1_holds_31
set_option maxHeartbeats 4000000 in
set_option maxRecDepth 100000 in
theorem c_X1_holds {l : Launch} {dC : Nat → ClassId} {dI : Nat → Nat → Nat} {cI cJ cZ : ClassId} {aG aC : Nat} {x1 : Int32} {x2 : Int32} {sd : Int32} {gn : Nat} {f : (Nat → Int64)} {R : Int32} (hf : f_X1_holds x1 x2 sd gn f = some R) : q_M l yX1_holds wsX1_holds rmX1_holds (dC, dI) (q_T cI cJ cZ) [.ref aG, .int x1, .int x2] [(aG, .inr (1, [.int sd, .ref aC])), (aC, .inl (cJ, gn, .inr (.inl f)))] (qI (dC, dI) (q_T cI cJ cZ) [(aG, .inr (1, [.int sd, .ref aC])), (aC, .inl (cJ, gn, .inr (.inl f)))] R) := by
  refine q_body (cc := cX1_holds) (maxL := 3) (ret := (some .boolean)) (by decide) rfl (Nat.le_of_ble_eq_true rfl) ?_
  intro p e s m args below meth c A C0 ls hP hD hS hl
  have hl : lv_has ls 3 [(0, .ref aG), (1, .int x1), (2, .int x2)] := hl
  exact B_X1_holds_0 C0 hf s.heap [] ls hP hD hS hl

/-! ## RungPlay$Grid.at -/
abbrev rmX1_at : Room := { frames := 1, cells := 0, slots := 0, locals := 22 }
theorem m_X1_at_f19 : Cond.fieldLink RX1 19 RX1 "cells" "[J" ∈ wsX1_at := by decide +kernel
theorem in_X1_at_X1 : ∀ w ∈ wsX10, w ∈ wsX1_at := by decide +kernel
theorem m_X1_at_f13 : Cond.fieldLink RX1 13 RX1 "side" "I" ∈ wsX1_at := by decide +kernel
def f_X1_at (x1 : Int32) (x2 : Int32) (sd : Int32) (gn : Nat) (f : (Nat → Int64)) : Option (Int64) :=
  (q_b1 (f_X1_holds x1 x2 sd gn f) (fun r1 => (if r1 = 0 then (some (0 : Int64)) else (if (x1 * sd) + x2 < 0 ∨ gn ≤ Int32.toNatClampNeg ((x1 * sd) + x2) then none else (some (f (Int32.toNatClampNeg ((x1 * sd) + x2))))))))
set_option maxHeartbeats 4000000 in
set_option maxRecDepth 100000 in
theorem B_X1_at_0 {p : Program} {l : Launch} {e : Env} {s : State} {m : MethodId} {args : Array Value} {below : List Frame} {meth : Method} {c : Code} {A : Nat → Prop} {dC : Nat → ClassId} {dI : Nat → Nat → Nat} {cI cJ cZ : ClassId} {aG aC : Nat} (C0 : q_C p s m args meth c (dC, dI) (q_T cI cJ cZ) A RX1 wsX1_at cX1_at 3 (some .long)) {x1 : Int32} {x2 : Int32} {sd : Int32} {gn : Nat} {f : (Nat → Int64)} {R : Int64} (hf : f_X1_at x1 x2 sd gn f = some R) : ∀ (H : Heap) (locs : List Loc) (ls : Array Slot), va_P (dC, dI) vwCl [(aG, .inr (1, [.int sd, .ref aC])), (aC, .inl (cJ, gn, .inr (.inl f)))] H → va_D A [(aG, .inr (1, [.int sd, .ref aC])), (aC, .inl (cJ, gn, .inr (.inl f)))] → va_S A s.heap H locs → lv_has ls 3 [(0, .ref aG), (1, .int x1), (2, .int x2)] → W p l e rmX1_at s m args below meth c H locs 0 0 (MQ below (qL (dC, dI) (q_T cI cJ cZ) [(aG, .inr (1, [.int sd, .ref aC])), (aC, .inl (cJ, gn, .inr (.inl f)))] R A) args s 0 0 A) (F0 m 0 ls []) := by
  obtain ⟨hx, hb, hml, hown, hts, hrt, hlk, hK, hX, hA⟩ := id C0
  intro H locs ls hP hD hS hl
  refine lv_aload_n hx hb dX1_at_0 rfl (lv_at hl 0 rfl) ?_
  refine lv_iload_n hx hb dX1_at_1 rfl (lv_at hl 1 rfl) ?_
  refine lv_iload_n hx hb dX1_at_2 rfl (lv_at hl 2 rfl) ?_
  obtain ⟨r1, hg2, hf⟩ := q_e1 hf
  refine q_endI (wc := [(aG, .inr (1, [.int sd, .ref aC])), (aC, .inl (cJ, gn, .inr (.inl f)))]) (wr := []) (w1 := [(aG, .inr (1, [.int sd, .ref aC])), (aC, .inl (cJ, gn, .inr (.inl f)))]) (rv := r1) C0 hP hD hS [0, 1] [] rfl rfl (by decide) (by decide) (q_runV (TT := TX1) (N := 2) (ci := 1) (q0 := 0) C0 (c_X1_holds (l := l) hg2) (cwV 2 hts gX1_at_X1_holds rfl rfl rfl (by decide +kernel) ⟨Nat.le_of_ble_eq_true rfl, Nat.le_of_ble_eq_true rfl⟩) hP hD hS [0, 1] rfl (by decide) rfl rfl rfl rfl hl.1 (Nat.le_of_ble_eq_true rfl) dX1_at_3) (fun H locs hP hD hS => ?_)
  have hP : va_P (dC, dI) vwCl [(aG, .inr (1, [.int sd, .ref aC])), (aC, .inl (cJ, gn, .inr (.inl f)))] H := hP
  have hD : va_D A [(aG, .inr (1, [.int sd, .ref aC])), (aC, .inl (cJ, gn, .inr (.inl f)))] := hD
  refine lv_if_eq (tgt := 25) hx hb dX1_at_6 (by decide) (fun hc3 => ?_) (fun hc3 => ?_)
  · have hf := q_if hf hc3
    refine lv_lconst (v := 0) hx hb dX1_at_25 (by decide) ?_
    obtain rfl := Option.some.inj hf
    exact q_retL C0 hP hD hS dX1_at_26
  · have hf := q_nif hf hc3
    refine lv_aload_n hx hb dX1_at_9 rfl (lv_at hl 0 rfl) ?_
    refine q_get (TT := TX1) C0 in_X1_at_X1 1 m_X1_at_f19 hP 0 rfl rfl (by decide) rfl rfl dX1_at_10 ?_
    refine lv_iload_n hx hb dX1_at_13 rfl (lv_at hl 1 rfl) ?_
    refine lv_aload_n hx hb dX1_at_14 rfl (lv_at hl 0 rfl) ?_
    refine q_get (TT := TX1) C0 in_X1_at_X1 0 m_X1_at_f13 hP 0 rfl rfl (by decide) rfl rfl dX1_at_15 ?_
    refine lv_imul hx hb dX1_at_18 ?_
    refine lv_iload_n hx hb dX1_at_19 rfl (lv_at hl 2 rfl) ?_
    refine lv_iadd hx hb dX1_at_20 ?_
    obtain ⟨hin4, hf⟩ := q_gd hf
    refine q_lald (v := f (Int32.toNatClampNeg ((x1 * sd) + x2))) C0 hP 1 1 rfl rfl hin4 rfl dX1_at_21 ?_
    refine lv_goto (tgt := 26) hx hb dX1_at_22 (by decide) ?_
    obtain rfl := Option.some.inj hf
    exact q_retL C0 hP hD hS dX1_at_26
set_option maxHeartbeats 4000000 in
set_option maxRecDepth 100000 in
theorem c_X1_at {l : Launch} {dC : Nat → ClassId} {dI : Nat → Nat → Nat} {cI cJ cZ : ClassId} {aG aC : Nat} {x1 : Int32} {x2 : Int32} {sd : Int32} {gn : Nat} {f : (Nat → Int64)} {R : Int64} (hf : f_X1_at x1 x2 sd gn f = some R) : q_M l yX1_at wsX1_at rmX1_at (dC, dI) (q_T cI cJ cZ) [.ref aG, .int x1, .int x2] [(aG, .inr (1, [.int sd, .ref aC])), (aC, .inl (cJ, gn, .inr (.inl f)))] (qL (dC, dI) (q_T cI cJ cZ) [(aG, .inr (1, [.int sd, .ref aC])), (aC, .inl (cJ, gn, .inr (.inl f)))] R) := by
  refine q_body (cc := cX1_at) (maxL := 3) (ret := (some .long)) (by decide) rfl (Nat.le_of_ble_eq_true rfl) ?_
  intro p e s m args below meth c A C0 ls hP hD hS hl
  have hl : lv_has ls 3 [(0, .ref aG), (1, .int x1), (2, .int x2)] := hl
  exact B_X1_at_0 C0 hf s.heap [] ls hP hD hS hl

/-! ## RungPlay$Grid.put -/
abbrev rmX1_put : Room := { frames := 1, cells := 0, slots := 0, locals := 22 }
theorem m_X1_put_f19 : Cond.fieldLink RX1 19 RX1 "cells" "[J" ∈ wsX1_put := by decide +kernel
theorem in_X1_put_X1 : ∀ w ∈ wsX10, w ∈ wsX1_put := by decide +kernel
theorem m_X1_put_f13 : Cond.fieldLink RX1 13 RX1 "side" "I" ∈ wsX1_put := by decide +kernel
def f_X1_put (x1 : Int32) (x2 : Int32) (x3 : Int64) (sd : Int32) (gn : Nat) (f : (Nat → Int64)) : Option ((Nat → Int64)) :=
  (q_b1 (f_X1_holds x1 x2 sd gn f) (fun r1 => (if r1 = 0 then (some f) else (if (x1 * sd) + x2 < 0 ∨ gn ≤ Int32.toNatClampNeg ((x1 * sd) + x2) then none else (some (vp_updL f (Int32.toNatClampNeg ((x1 * sd) + x2)) x3))))))
set_option maxHeartbeats 4000000 in
set_option maxRecDepth 100000 in
theorem B_X1_put_0 {p : Program} {l : Launch} {e : Env} {s : State} {m : MethodId} {args : Array Value} {below : List Frame} {meth : Method} {c : Code} {A : Nat → Prop} {dC : Nat → ClassId} {dI : Nat → Nat → Nat} {cI cJ cZ : ClassId} {aG aC : Nat} (C0 : q_C p s m args meth c (dC, dI) (q_T cI cJ cZ) A RX1 wsX1_put cX1_put 5 none) {x1 : Int32} {x2 : Int32} {x3 : Int64} {sd : Int32} {gn : Nat} {f : (Nat → Int64)} {R : (Nat → Int64)} (hf : f_X1_put x1 x2 x3 sd gn f = some R) : ∀ (H : Heap) (locs : List Loc) (ls : Array Slot), va_P (dC, dI) vwCl [(aG, .inr (1, [.int sd, .ref aC])), (aC, .inl (cJ, gn, .inr (.inl f)))] H → va_D A [(aG, .inr (1, [.int sd, .ref aC])), (aC, .inl (cJ, gn, .inr (.inl f)))] → va_S A s.heap H locs → lv_has ls 5 [(0, .ref aG), (1, .int x1), (2, .int x2), (3, .long x3)] → W p l e rmX1_put s m args below meth c H locs 0 0 (MQ below (qV (dC, dI) (q_T cI cJ cZ) [(aG, .inr (1, [.int sd, .ref aC])), (aC, .inl (cJ, gn, .inr (.inl R)))] A) args s 0 0 A) (F0 m 0 ls []) := by
  obtain ⟨hx, hb, hml, hown, hts, hrt, hlk, hK, hX, hA⟩ := id C0
  intro H locs ls hP hD hS hl
  refine lv_aload_n hx hb dX1_put_0 rfl (lv_at hl 0 rfl) ?_
  refine lv_iload_n hx hb dX1_put_1 rfl (lv_at hl 1 rfl) ?_
  refine lv_iload_n hx hb dX1_put_2 rfl (lv_at hl 2 rfl) ?_
  obtain ⟨r1, hg2, hf⟩ := q_e1 hf
  refine q_endI (wc := [(aG, .inr (1, [.int sd, .ref aC])), (aC, .inl (cJ, gn, .inr (.inl f)))]) (wr := []) (w1 := [(aG, .inr (1, [.int sd, .ref aC])), (aC, .inl (cJ, gn, .inr (.inl f)))]) (rv := r1) C0 hP hD hS [0, 1] [] rfl rfl (by decide) (by decide) (q_runV (TT := TX1) (N := 2) (ci := 1) (q0 := 0) C0 (c_X1_holds (l := l) hg2) (cwV 2 hts gX1_put_X1_holds rfl rfl rfl (by decide +kernel) ⟨Nat.le_of_ble_eq_true rfl, Nat.le_of_ble_eq_true rfl⟩) hP hD hS [0, 1] rfl (by decide) rfl rfl rfl rfl hl.1 (Nat.le_of_ble_eq_true rfl) dX1_put_3) (fun H locs hP hD hS => ?_)
  have hP : va_P (dC, dI) vwCl [(aG, .inr (1, [.int sd, .ref aC])), (aC, .inl (cJ, gn, .inr (.inl f)))] H := hP
  have hD : va_D A [(aG, .inr (1, [.int sd, .ref aC])), (aC, .inl (cJ, gn, .inr (.inl f)))] := hD
  refine lv_if_eq (tgt := 23) hx hb dX1_put_6 (by decide) (fun hc3 => ?_) (fun hc3 => ?_)
  · have hf := q_if hf hc3
    obtain rfl := Option.some.inj hf
    exact q_retV C0 hP hD hS dX1_put_23
  · have hf := q_nif hf hc3
    refine lv_aload_n hx hb dX1_put_9 rfl (lv_at hl 0 rfl) ?_
    refine q_get (TT := TX1) C0 in_X1_put_X1 1 m_X1_put_f19 hP 0 rfl rfl (by decide) rfl rfl dX1_put_10 ?_
    refine lv_iload_n hx hb dX1_put_13 rfl (lv_at hl 1 rfl) ?_
    refine lv_aload_n hx hb dX1_put_14 rfl (lv_at hl 0 rfl) ?_
    refine q_get (TT := TX1) C0 in_X1_put_X1 0 m_X1_put_f13 hP 0 rfl rfl (by decide) rfl rfl dX1_put_15 ?_
    refine lv_imul hx hb dX1_put_18 ?_
    refine lv_iload_n hx hb dX1_put_19 rfl (lv_at hl 2 rfl) ?_
    refine lv_iadd hx hb dX1_put_20 ?_
    refine lv_lload_n hx hb dX1_put_21 rfl (lv_at hl 3 rfl) ?_
    obtain ⟨hin4, hf⟩ := q_gd hf
    refine q_last (g := vp_updL f (Int32.toNatClampNeg ((x1 * sd) + x2)) x3) C0 hP hD hS 1 1 rfl rfl hin4 rfl dX1_put_22 (fun H locs hP hD hS => ?_)
    have hP : va_P (dC, dI) vwCl [(aG, .inr (1, [.int sd, .ref aC])), (aC, .inl (cJ, gn, .inr (.inl (vp_updL f (Int32.toNatClampNeg ((x1 * sd) + x2)) x3))))] H := hP
    have hD : va_D A [(aG, .inr (1, [.int sd, .ref aC])), (aC, .inl (cJ, gn, .inr (.inl (vp_updL f (Int32.toNatClampNeg ((x1 * sd) + x2)) x3))))] := hD
    obtain rfl := Option.some.inj hf
    exact q_retV C0 hP hD hS dX1_put_23
set_option maxHeartbeats 4000000 in
set_option maxRecDepth 100000 in
theorem c_X1_put {l : Launch} {dC : Nat → ClassId} {dI : Nat → Nat → Nat} {cI cJ cZ : ClassId} {aG aC : Nat} {x1 : Int32} {x2 : Int32} {x3 : Int64} {sd : Int32} {gn : Nat} {f : (Nat → Int64)} {R : (Nat → Int64)} (hf : f_X1_put x1 x2 x3 sd gn f = some R) : q_M l yX1_put wsX1_put rmX1_put (dC, dI) (q_T cI cJ cZ) [.ref aG, .int x1, .int x2, .long x3] [(aG, .inr (1, [.int sd, .ref aC])), (aC, .inl (cJ, gn, .inr (.inl f)))] (qV (dC, dI) (q_T cI cJ cZ) [(aG, .inr (1, [.int sd, .ref aC])), (aC, .inl (cJ, gn, .inr (.inl R)))]) := by
  refine q_body (cc := cX1_put) (maxL := 5) (ret := none) (by decide) rfl (Nat.le_of_ble_eq_true rfl) ?_
  intro p e s m args below meth c A C0 ls hP hD hS hl
  have hl : lv_has ls 5 [(0, .ref aG), (1, .int x1), (2, .int x2), (3, .long x3)] := hl
  exact B_X1_put_0 C0 hf s.heap [] ls hP hD hS hl

/-! ## RungPlay$GameOdds.tens -/
abbrev rmX0_tens : Room := { frames := 0, cells := 0, slots := 0, locals := 0 }
def b_X0_tens_21  : Option (Int64) :=
  (some (1 : Int64))
def f_X0_tens (x0 : Int32) : Option (Int64) :=
  (if x0 < 0 then (b_X0_tens_21 ) else (if 11 ≤ x0 then (b_X0_tens_21 ) else (if x0 < 0 ∨ 11 ≤ Int32.toNatClampNeg x0 then none else (some (q_ten (Int32.toNatClampNeg x0))))))
set_option maxHeartbeats 4000000 in
set_option maxRecDepth 100000 in
theorem B_X0_tens_21 {p : Program} {l : Launch} {e : Env} {s : State} {m : MethodId} {args : Array Value} {below : List Frame} {meth : Method} {c : Code} {A : Nat → Prop} {dC : Nat → ClassId} {dI : Nat → Nat → Nat} {cI cJ cZ : ClassId} (C0 : q_C p s m args meth c (dC, dI) (q_T cI cJ cZ) A RX0 wsX0_tens cX0_tens 1 (some .long))  {R : Int64} (hf : b_X0_tens_21  = some R) : ∀ (H : Heap) (locs : List Loc) (ls : Array Slot), va_P (dC, dI) vwCl [] H → va_D A [] → va_S A s.heap H locs → lv_has ls 1 [] → W p l e rmX0_tens s m args below meth c H locs 0 0 (MQ below (qL (dC, dI) (q_T cI cJ cZ) [] R A) args s 0 0 A) (F0 m 21 ls []) := by
  obtain ⟨hx, hb, hml, hown, hts, hrt, hlk, hK, hX, hA⟩ := id C0
  obtain ⟨⟨t0, hZ, hT⟩, hN, hNest, hN6, hN4⟩ := hX
  intro H locs ls hP hD hS hl
  refine lv_lconst (v := 1) hx hb dX0_tens_21 (by decide) ?_
  obtain rfl := Option.some.inj hf
  exact q_retL C0 hP hD hS dX0_tens_22
set_option maxHeartbeats 4000000 in
set_option maxRecDepth 100000 in
theorem B_X0_tens_0 {p : Program} {l : Launch} {e : Env} {s : State} {m : MethodId} {args : Array Value} {below : List Frame} {meth : Method} {c : Code} {A : Nat → Prop} {dC : Nat → ClassId} {dI : Nat → Nat → Nat} {cI cJ cZ : ClassId} (C0 : q_C p s m args meth c (dC, dI) (q_T cI cJ cZ) A RX0 wsX0_tens cX0_tens 1 (some .long)) {x0 : Int32} {R : Int64} (hf : f_X0_tens x0 = some R) : ∀ (H : Heap) (locs : List Loc) (ls : Array Slot), va_P (dC, dI) vwCl [] H → va_D A [] → va_S A s.heap H locs → lv_has ls 1 [(0, .int x0)] → W p l e rmX0_tens s m args below meth c H locs 0 0 (MQ below (qL (dC, dI) (q_T cI cJ cZ) [] R A) args s 0 0 A) (F0 m 0 ls []) := by
  obtain ⟨hx, hb, hml, hown, hts, hrt, hlk, hK, hX, hA⟩ := id C0
  obtain ⟨⟨t0, hZ, hT⟩, hN, hNest, hN6, hN4⟩ := hX
  intro H locs ls hP hD hS hl
  refine lv_iconst (v := 0) hx hb dX0_tens_0 (by decide) ?_
  refine lv_iload_n hx hb dX0_tens_1 rfl (lv_at hl 0 rfl) ?_
  refine lv_icmp_gt (tgt := 21) hx hb dX0_tens_2 (by decide) (fun hc1 => ?_) (fun hc1 => ?_)
  · have hf := q_if hf hc1
    exact B_X0_tens_21 C0 hf H locs ls hP hD hS (lv_sub hl [] rfl)
  · have hf := q_nif hf hc1
    refine lv_iload_n hx hb dX0_tens_5 rfl (lv_at hl 0 rfl) ?_
    refine va_getsN hx hb hZ hS hown (va_Nw.use rfl hN) (fun _ h9 => h9) dX0_tens_6 ?_
    refine va_tlen (v := 11) hx hb hT hS rfl dX0_tens_9 ?_
    refine lv_icmp_ge (tgt := 21) hx hb dX0_tens_10 (by decide) (fun hc2 => ?_) (fun hc2 => ?_)
    · have hf := q_if hf hc2
      exact B_X0_tens_21 C0 hf H locs ls hP hD hS (lv_sub hl [] rfl)
    · have hf := q_nif hf hc2
      refine va_getsN hx hb hZ hS hown (va_Nw.use rfl hN) (fun _ h9 => h9) dX0_tens_13 ?_
      refine lv_iload_n hx hb dX0_tens_16 rfl (lv_at hl 0 rfl) ?_
      obtain ⟨hin3, hf⟩ := q_gd hf
      refine va_tl (v := .long (q_ten (Int32.toNatClampNeg x0))) hx hb hT hS hin3 rfl dX0_tens_17 ?_
      refine lv_goto (tgt := 22) hx hb dX0_tens_18 (by decide) ?_
      obtain rfl := Option.some.inj hf
      exact q_retL C0 hP hD hS dX0_tens_22
set_option maxHeartbeats 4000000 in
set_option maxRecDepth 100000 in
theorem c_X0_tens {l : Launch} {dC : Nat → ClassId} {dI : Nat → Nat → Nat} {cI cJ cZ : ClassId} {x0 : Int32} {R : Int64} (hf : f_X0_tens x0 = some R) : q_M l yX0_tens wsX0_tens rmX0_tens (dC, dI) (q_T cI cJ cZ) [.int x0] [] (qL (dC, dI) (q_T cI cJ cZ) [] R) := by
  refine q_body (cc := cX0_tens) (maxL := 1) (ret := (some .long)) (by decide) rfl (Nat.le_of_ble_eq_true rfl) ?_
  intro p e s m args below meth c A C0 ls hP hD hS hl
  have hl : lv_has ls 1 [(0, .int x0)] := hl
  exact B_X0_tens_0 C0 hf s.heap [] ls hP hD hS hl

/-! ## RungPlay$GameOdds.bottom -/
abbrev rmX0_bottom : Room := { frames := 1, cells := 0, slots := 0, locals := 20 }
theorem m_X0_bottom_f36 : Cond.fieldLink RX0 36 RX0 "unit" "J" ∈ wsX0_bottom := by decide +kernel
theorem in_X0_bottom_X0 : ∀ w ∈ wsX00, w ∈ wsX0_bottom := by decide +kernel
theorem m_X0_bottom_f33 : Cond.fieldLink RX0 33 RX0 "to" "I" ∈ wsX0_bottom := by decide +kernel
def f_X0_bottom (x1 : Int32) (x2 : Int32) (r : (Nat → Int32)) (to : Int32) (un : Int64) (fc : (Nat → Int64)) (fl : (Nat → Int64)) : Option (Int64) :=
  (q_b1 (f_X0_tens (((2 * to) - x1) - x2)) (fun r1 => (some (un * r1))))
set_option maxHeartbeats 4000000 in
set_option maxRecDepth 100000 in
theorem B_X0_bottom_0 {p : Program} {l : Launch} {e : Env} {s : State} {m : MethodId} {args : Array Value} {below : List Frame} {meth : Method} {c : Code} {A : Nat → Prop} {dC : Nat → ClassId} {dI : Nat → Nat → Nat} {cI cJ cZ : ClassId} {aO aR gC gCc gL gLc : Nat} (C0 : q_C p s m args meth c (dC, dI) (q_T cI cJ cZ) A RX0 wsX0_bottom cX0_bottom 3 (some .long)) {x1 : Int32} {x2 : Int32} {r : (Nat → Int32)} {to : Int32} {un : Int64} {fc : (Nat → Int64)} {fl : (Nat → Int64)} {R : Int64} (hf : f_X0_bottom x1 x2 r to un fc fl = some R) : ∀ (H : Heap) (locs : List Loc) (ls : Array Slot), va_P (dC, dI) vwCl [(aO, .inr (0, [.ref aR, .ref gC, .ref gL, .int to, .long un])), (aR, .inr (5, [.int (r 0), .int (r 1), .int (r 2), .int (r 3), .int (r 4), .int (r 5), .int (r 6)])), (gC, .inr (1, [.int 7, .ref gCc])), (gCc, .inl (cJ, 49, .inr (.inl fc))), (gL, .inr (1, [.int 7, .ref gLc])), (gLc, .inl (cJ, 49, .inr (.inl fl)))] H → va_D A [(aO, .inr (0, [.ref aR, .ref gC, .ref gL, .int to, .long un])), (aR, .inr (5, [.int (r 0), .int (r 1), .int (r 2), .int (r 3), .int (r 4), .int (r 5), .int (r 6)])), (gC, .inr (1, [.int 7, .ref gCc])), (gCc, .inl (cJ, 49, .inr (.inl fc))), (gL, .inr (1, [.int 7, .ref gLc])), (gLc, .inl (cJ, 49, .inr (.inl fl)))] → va_S A s.heap H locs → lv_has ls 3 [(0, .ref aO), (1, .int x1), (2, .int x2)] → W p l e rmX0_bottom s m args below meth c H locs 0 0 (MQ below (qL (dC, dI) (q_T cI cJ cZ) [(aO, .inr (0, [.ref aR, .ref gC, .ref gL, .int to, .long un])), (aR, .inr (5, [.int (r 0), .int (r 1), .int (r 2), .int (r 3), .int (r 4), .int (r 5), .int (r 6)])), (gC, .inr (1, [.int 7, .ref gCc])), (gCc, .inl (cJ, 49, .inr (.inl fc))), (gL, .inr (1, [.int 7, .ref gLc])), (gLc, .inl (cJ, 49, .inr (.inl fl)))] R A) args s 0 0 A) (F0 m 0 ls []) := by
  obtain ⟨hx, hb, hml, hown, hts, hrt, hlk, hK, hX, hA⟩ := id C0
  intro H locs ls hP hD hS hl
  refine lv_aload_n hx hb dX0_bottom_0 rfl (lv_at hl 0 rfl) ?_
  refine q_get (TT := TX0) C0 in_X0_bottom_X0 4 m_X0_bottom_f36 hP 0 rfl rfl (by decide) rfl rfl dX0_bottom_1 ?_
  refine lv_iconst (v := 2) hx hb dX0_bottom_4 (by decide) ?_
  refine lv_aload_n hx hb dX0_bottom_5 rfl (lv_at hl 0 rfl) ?_
  refine q_get (TT := TX0) C0 in_X0_bottom_X0 3 m_X0_bottom_f33 hP 0 rfl rfl (by decide) rfl rfl dX0_bottom_6 ?_
  refine lv_imul hx hb dX0_bottom_9 ?_
  refine lv_iload_n hx hb dX0_bottom_10 rfl (lv_at hl 1 rfl) ?_
  refine lv_isub hx hb dX0_bottom_11 ?_
  refine lv_iload_n hx hb dX0_bottom_12 rfl (lv_at hl 2 rfl) ?_
  refine lv_isub hx hb dX0_bottom_13 ?_
  obtain ⟨r1, hg2, hf⟩ := q_e1 hf
  refine q_endL (wc := []) (wr := [(aO, .inr (0, [.ref aR, .ref gC, .ref gL, .int to, .long un])), (aR, .inr (5, [.int (r 0), .int (r 1), .int (r 2), .int (r 3), .int (r 4), .int (r 5), .int (r 6)])), (gC, .inr (1, [.int 7, .ref gCc])), (gCc, .inl (cJ, 49, .inr (.inl fc))), (gL, .inr (1, [.int 7, .ref gLc])), (gLc, .inl (cJ, 49, .inr (.inl fl)))]) (w1 := []) (rv := r1) C0 hP hD hS [] [0, 1, 2, 3, 4, 5] rfl rfl (by decide) (by decide) (q_runS C0 (c_X0_tens (l := l) hg2) (va_cwS 1 hts gX0_bottom_X0_tens rfl rfl rfl (by decide +kernel) ⟨Nat.le_of_ble_eq_true rfl, Nat.le_of_ble_eq_true rfl⟩) hP hD hS [] rfl (by decide) rfl rfl hl.1 (Nat.le_of_ble_eq_true rfl) dX0_bottom_14) (fun H locs hP hD hS => ?_)
  have hP : va_P (dC, dI) vwCl [(aO, .inr (0, [.ref aR, .ref gC, .ref gL, .int to, .long un])), (aR, .inr (5, [.int (r 0), .int (r 1), .int (r 2), .int (r 3), .int (r 4), .int (r 5), .int (r 6)])), (gC, .inr (1, [.int 7, .ref gCc])), (gCc, .inl (cJ, 49, .inr (.inl fc))), (gL, .inr (1, [.int 7, .ref gLc])), (gLc, .inl (cJ, 49, .inr (.inl fl)))] H := hP
  have hD : va_D A [(aO, .inr (0, [.ref aR, .ref gC, .ref gL, .int to, .long un])), (aR, .inr (5, [.int (r 0), .int (r 1), .int (r 2), .int (r 3), .int (r 4), .int (r 5), .int (r 6)])), (gC, .inr (1, [.int 7, .ref gCc])), (gCc, .inl (cJ, 49, .inr (.inl fc))), (gL, .inr (1, [.int 7, .ref gLc])), (gLc, .inl (cJ, 49, .inr (.inl fl)))] := hD
  refine lv_lmul hx hb dX0_bottom_17 ?_
  obtain rfl := Option.some.inj hf
  exact q_retL C0 hP hD hS dX0_bottom_18
set_option maxHeartbeats 4000000 in
set_option maxRecDepth 100000 in
theorem c_X0_bottom {l : Launch} {dC : Nat → ClassId} {dI : Nat → Nat → Nat} {cI cJ cZ : ClassId} {aO aR gC gCc gL gLc : Nat} {x1 : Int32} {x2 : Int32} {r : (Nat → Int32)} {to : Int32} {un : Int64} {fc : (Nat → Int64)} {fl : (Nat → Int64)} {R : Int64} (hf : f_X0_bottom x1 x2 r to un fc fl = some R) : q_M l yX0_bottom wsX0_bottom rmX0_bottom (dC, dI) (q_T cI cJ cZ) [.ref aO, .int x1, .int x2] [(aO, .inr (0, [.ref aR, .ref gC, .ref gL, .int to, .long un])), (aR, .inr (5, [.int (r 0), .int (r 1), .int (r 2), .int (r 3), .int (r 4), .int (r 5), .int (r 6)])), (gC, .inr (1, [.int 7, .ref gCc])), (gCc, .inl (cJ, 49, .inr (.inl fc))), (gL, .inr (1, [.int 7, .ref gLc])), (gLc, .inl (cJ, 49, .inr (.inl fl)))] (qL (dC, dI) (q_T cI cJ cZ) [(aO, .inr (0, [.ref aR, .ref gC, .ref gL, .int to, .long un])), (aR, .inr (5, [.int (r 0), .int (r 1), .int (r 2), .int (r 3), .int (r 4), .int (r 5), .int (r 6)])), (gC, .inr (1, [.int 7, .ref gCc])), (gCc, .inl (cJ, 49, .inr (.inl fc))), (gL, .inr (1, [.int 7, .ref gLc])), (gLc, .inl (cJ, 49, .inr (.inl fl)))] R) := by
  refine q_body (cc := cX0_bottom) (maxL := 3) (ret := (some .long)) (by decide) rfl (Nat.le_of_ble_eq_true rfl) ?_
  intro p e s m args below meth c A C0 ls hP hD hS hl
  have hl : lv_has ls 3 [(0, .ref aO), (1, .int x1), (2, .int x2)] := hl
  exact B_X0_bottom_0 C0 hf s.heap [] ls hP hD hS hl

/-! ## RungPlay$GameOdds.reckonScore -/
abbrev rmX0_reckonScore : Room := { frames := 2, cells := 0, slots := 0, locals := 47 }
theorem m_X0_reckonScore_f20 : Cond.fieldLink RX0 20 RX0 "lengths" "LRungPlay$Grid;" ∈ wsX0_reckonScore := by decide +kernel
theorem in_X0_reckonScore_X0 : ∀ w ∈ wsX00, w ∈ wsX0_reckonScore := by decide +kernel
theorem m_X0_reckonScore_f23 : Cond.fieldLink RX0 23 RX0 "rules" "LRungPlay$Rules;" ∈ wsX0_reckonScore := by decide +kernel
theorem m_X0_reckonScore_f48 : Cond.fieldLink RX0 48 RX5 "kind" "I" ∈ wsX0_reckonScore := by decide +kernel
theorem in_X0_reckonScore_X5 : ∀ w ∈ wsX50, w ∈ wsX0_reckonScore := by decide +kernel
theorem m_X0_reckonScore_f33 : Cond.fieldLink RX0 33 RX0 "to" "I" ∈ wsX0_reckonScore := by decide +kernel
theorem m_X0_reckonScore_f14 : Cond.fieldLink RX0 14 RX0 "chances" "LRungPlay$Grid;" ∈ wsX0_reckonScore := by decide +kernel
theorem m_X0_reckonScore_k73 : Cond.constantLong RX0 73 (200) ∈ wsX0_reckonScore := by decide +kernel
def b_X0_reckonScore_45 (x1 : Int32) (x2 : Int32) (s0 : Int64) (s1 : Int32) (s2 : Int32) (r : (Nat → Int32)) (to : Int32) (un : Int64) (fc : (Nat → Int64)) (fl : (Nat → Int64)) : Option ((Nat → Int64) × (Nat → Int64)) :=
  (q_b1 (f_X1_put s2 s1 s0 7 49 fc) (fun f1 => (q_b1 (f_X1_put x1 x2 (0 : Int64) 7 49 fl) (fun f3 => (some (f1, f3))))))
def f_X0_reckonScore (x1 : Int32) (x2 : Int32) (x3 : Int32) (x4 : Int32) (r : (Nat → Int32)) (to : Int32) (un : Int64) (fc : (Nat → Int64)) (fl : (Nat → Int64)) : Option ((Nat → Int64) × (Nat → Int64)) :=
  (q_b1 (f_X5_gameWinner (r 6) x1 x2 r) (fun r5 => (if r5 = 0 then (if (x1 + x2) = (2 * to) then (q_b1 (f_X1_put x1 x2 (Int32.toInt64 (x3 * x3)) 7 49 fc) (fun f23 => (q_b1 (f_X1_put x1 x2 (200 : Int64) 7 49 fl) (fun f25 => (some (f23, f25)))))) else (q_b1 (f_X1_at (x1 + 1) x2 7 49 fc) (fun r9 => (q_b1 (f_X1_at x1 (x2 + 1) 7 49 fc) (fun r11 => (q_b1 (f_X1_put x1 x2 (((Int32.toInt64 x3) * r9) + ((Int32.toInt64 x4) * r11)) 7 49 fc) (fun f13 => (q_b1 (f_X0_bottom x1 x2 r to un f13 fl) (fun r15 => (q_b1 (f_X1_at (x1 + 1) x2 7 49 fl) (fun r17 => (q_b1 (f_X1_at x1 (x2 + 1) 7 49 fl) (fun r19 => (q_b1 (f_X1_put x1 x2 ((r15 + ((Int32.toInt64 x3) * r17)) + ((Int32.toInt64 x4) * r19)) 7 49 fl) (fun f21 => (some (f13, f21))))))))))))))))) else (if r5 = 1 then (q_b1 (f_X0_bottom x1 x2 r to un fc fl) (fun r28 => (b_X0_reckonScore_45 x1 x2 r28 x2 x1 r to un fc fl))) else (b_X0_reckonScore_45 x1 x2 (0 : Int64) x2 x1 r to un fc fl)))))
set_option maxHeartbeats 4000000 in
set_option maxRecDepth 100000 in
theorem B_X0_reckonScore_45 {p : Program} {l : Launch} {e : Env} {s : State} {m : MethodId} {args : Array Value} {below : List Frame} {meth : Method} {c : Code} {A : Nat → Prop} {dC : Nat → ClassId} {dI : Nat → Nat → Nat} {cI cJ cZ : ClassId} {aO aR gC gCc gL gLc : Nat} (C0 : q_C p s m args meth c (dC, dI) (q_T cI cJ cZ) A RX0 wsX0_reckonScore cX0_reckonScore 6 none) {x1 : Int32} {x2 : Int32} {s0 : Int64} {s1 : Int32} {s2 : Int32} {r : (Nat → Int32)} {to : Int32} {un : Int64} {fc : (Nat → Int64)} {fl : (Nat → Int64)} {R : (Nat → Int64) × (Nat → Int64)} (hf : b_X0_reckonScore_45 x1 x2 s0 s1 s2 r to un fc fl = some R) : ∀ (H : Heap) (locs : List Loc) (ls : Array Slot), va_P (dC, dI) vwCl [(aO, .inr (0, [.ref aR, .ref gC, .ref gL, .int to, .long un])), (aR, .inr (5, [.int (r 0), .int (r 1), .int (r 2), .int (r 3), .int (r 4), .int (r 5), .int (r 6)])), (gC, .inr (1, [.int 7, .ref gCc])), (gCc, .inl (cJ, 49, .inr (.inl fc))), (gL, .inr (1, [.int 7, .ref gLc])), (gLc, .inl (cJ, 49, .inr (.inl fl)))] H → va_D A [(aO, .inr (0, [.ref aR, .ref gC, .ref gL, .int to, .long un])), (aR, .inr (5, [.int (r 0), .int (r 1), .int (r 2), .int (r 3), .int (r 4), .int (r 5), .int (r 6)])), (gC, .inr (1, [.int 7, .ref gCc])), (gCc, .inl (cJ, 49, .inr (.inl fc))), (gL, .inr (1, [.int 7, .ref gLc])), (gLc, .inl (cJ, 49, .inr (.inl fl)))] → va_S A s.heap H locs → lv_has ls 6 [(0, .ref aO), (1, .int x1), (2, .int x2)] → W p l e rmX0_reckonScore s m args below meth c H locs 0 0 (MQ below (qV (dC, dI) (q_T cI cJ cZ) [(aO, .inr (0, [.ref aR, .ref gC, .ref gL, .int to, .long un])), (aR, .inr (5, [.int (r 0), .int (r 1), .int (r 2), .int (r 3), .int (r 4), .int (r 5), .int (r 6)])), (gC, .inr (1, [.int 7, .ref gCc])), (gCc, .inl (cJ, 49, .inr (.inl R.1))), (gL, .inr (1, [.int 7, .ref gLc])), (gLc, .inl (cJ, 49, .inr (.inl R.2)))] A) args s 0 0 A) (F0 m 45 ls [.long s0, .int s1, .int s2, .ref gC]) := by
  obtain ⟨hx, hb, hml, hown, hts, hrt, hlk, hK, hX, hA⟩ := id C0
  intro H locs ls hP hD hS hl
  obtain ⟨f1, hg2, hf⟩ := q_e1 hf
  refine q_endV (wc := [(gC, .inr (1, [.int 7, .ref gCc])), (gCc, .inl (cJ, 49, .inr (.inl fc)))]) (wr := [(aO, .inr (0, [.ref aR, .ref gC, .ref gL, .int to, .long un])), (aR, .inr (5, [.int (r 0), .int (r 1), .int (r 2), .int (r 3), .int (r 4), .int (r 5), .int (r 6)])), (gL, .inr (1, [.int 7, .ref gLc])), (gLc, .inl (cJ, 49, .inr (.inl fl)))]) (w1 := [(gC, .inr (1, [.int 7, .ref gCc])), (gCc, .inl (cJ, 49, .inr (.inl f1)))]) C0 hP hD hS [2, 3] [0, 1, 4, 5] rfl rfl (by decide) (by decide) (q_runV (TT := TX1) (N := 2) (ci := 1) (q0 := 0) C0 (c_X1_put (l := l) hg2) (cwV 3 hts gX0_reckonScore_X1_put rfl rfl rfl (by decide +kernel) ⟨Nat.le_of_ble_eq_true rfl, Nat.le_of_ble_eq_true rfl⟩) hP hD hS [2, 3] rfl (by decide) rfl rfl rfl rfl hl.1 (Nat.le_of_ble_eq_true rfl) dX0_reckonScore_45) (fun H locs hP hD hS => ?_)
  have hP : va_P (dC, dI) vwCl [(aO, .inr (0, [.ref aR, .ref gC, .ref gL, .int to, .long un])), (aR, .inr (5, [.int (r 0), .int (r 1), .int (r 2), .int (r 3), .int (r 4), .int (r 5), .int (r 6)])), (gL, .inr (1, [.int 7, .ref gLc])), (gLc, .inl (cJ, 49, .inr (.inl fl))), (gC, .inr (1, [.int 7, .ref gCc])), (gCc, .inl (cJ, 49, .inr (.inl f1)))] H := hP
  have hD : va_D A [(aO, .inr (0, [.ref aR, .ref gC, .ref gL, .int to, .long un])), (aR, .inr (5, [.int (r 0), .int (r 1), .int (r 2), .int (r 3), .int (r 4), .int (r 5), .int (r 6)])), (gL, .inr (1, [.int 7, .ref gLc])), (gLc, .inl (cJ, 49, .inr (.inl fl))), (gC, .inr (1, [.int 7, .ref gCc])), (gCc, .inl (cJ, 49, .inr (.inl f1)))] := hD
  refine lv_aload_n hx hb dX0_reckonScore_48 rfl (lv_at hl 0 rfl) ?_
  refine q_get (TT := TX0) C0 in_X0_reckonScore_X0 2 m_X0_reckonScore_f20 hP 0 rfl rfl (by decide) rfl rfl dX0_reckonScore_49 ?_
  refine lv_iload_n hx hb dX0_reckonScore_52 rfl (lv_at hl 1 rfl) ?_
  refine lv_iload_n hx hb dX0_reckonScore_53 rfl (lv_at hl 2 rfl) ?_
  refine lv_lconst (v := 0) hx hb dX0_reckonScore_54 (by decide) ?_
  obtain ⟨f3, hg4, hf⟩ := q_e1 hf
  refine q_endV (wc := [(gL, .inr (1, [.int 7, .ref gLc])), (gLc, .inl (cJ, 49, .inr (.inl fl)))]) (wr := [(aO, .inr (0, [.ref aR, .ref gC, .ref gL, .int to, .long un])), (aR, .inr (5, [.int (r 0), .int (r 1), .int (r 2), .int (r 3), .int (r 4), .int (r 5), .int (r 6)])), (gC, .inr (1, [.int 7, .ref gCc])), (gCc, .inl (cJ, 49, .inr (.inl f1)))]) (w1 := [(gL, .inr (1, [.int 7, .ref gLc])), (gLc, .inl (cJ, 49, .inr (.inl f3)))]) C0 hP hD hS [2, 3] [0, 1, 4, 5] rfl rfl (by decide) (by decide) (q_runV (TT := TX1) (N := 2) (ci := 1) (q0 := 0) C0 (c_X1_put (l := l) hg4) (cwV 3 hts gX0_reckonScore_X1_put rfl rfl rfl (by decide +kernel) ⟨Nat.le_of_ble_eq_true rfl, Nat.le_of_ble_eq_true rfl⟩) hP hD hS [2, 3] rfl (by decide) rfl rfl rfl rfl hl.1 (Nat.le_of_ble_eq_true rfl) dX0_reckonScore_55) (fun H locs hP hD hS => ?_)
  have hP : va_P (dC, dI) vwCl [(aO, .inr (0, [.ref aR, .ref gC, .ref gL, .int to, .long un])), (aR, .inr (5, [.int (r 0), .int (r 1), .int (r 2), .int (r 3), .int (r 4), .int (r 5), .int (r 6)])), (gC, .inr (1, [.int 7, .ref gCc])), (gCc, .inl (cJ, 49, .inr (.inl f1))), (gL, .inr (1, [.int 7, .ref gLc])), (gLc, .inl (cJ, 49, .inr (.inl f3)))] H := hP
  have hD : va_D A [(aO, .inr (0, [.ref aR, .ref gC, .ref gL, .int to, .long un])), (aR, .inr (5, [.int (r 0), .int (r 1), .int (r 2), .int (r 3), .int (r 4), .int (r 5), .int (r 6)])), (gC, .inr (1, [.int 7, .ref gCc])), (gCc, .inl (cJ, 49, .inr (.inl f1))), (gL, .inr (1, [.int 7, .ref gLc])), (gLc, .inl (cJ, 49, .inr (.inl f3)))] := hD
  refine lv_goto (tgt := 186) hx hb dX0_reckonScore_58 (by decide) ?_
  obtain rfl := Option.some.inj hf
  exact q_retV C0 hP hD hS dX0_reckonScore_186
set_option maxHeartbeats 4000000 in
set_option maxRecDepth 100000 in
theorem B_X0_reckonScore_0 {p : Program} {l : Launch} {e : Env} {s : State} {m : MethodId} {args : Array Value} {below : List Frame} {meth : Method} {c : Code} {A : Nat → Prop} {dC : Nat → ClassId} {dI : Nat → Nat → Nat} {cI cJ cZ : ClassId} {aO aR gC gCc gL gLc : Nat} (C0 : q_C p s m args meth c (dC, dI) (q_T cI cJ cZ) A RX0 wsX0_reckonScore cX0_reckonScore 6 none) {x1 : Int32} {x2 : Int32} {x3 : Int32} {x4 : Int32} {r : (Nat → Int32)} {to : Int32} {un : Int64} {fc : (Nat → Int64)} {fl : (Nat → Int64)} {R : (Nat → Int64) × (Nat → Int64)} (hf : f_X0_reckonScore x1 x2 x3 x4 r to un fc fl = some R) : ∀ (H : Heap) (locs : List Loc) (ls : Array Slot), va_P (dC, dI) vwCl [(aO, .inr (0, [.ref aR, .ref gC, .ref gL, .int to, .long un])), (aR, .inr (5, [.int (r 0), .int (r 1), .int (r 2), .int (r 3), .int (r 4), .int (r 5), .int (r 6)])), (gC, .inr (1, [.int 7, .ref gCc])), (gCc, .inl (cJ, 49, .inr (.inl fc))), (gL, .inr (1, [.int 7, .ref gLc])), (gLc, .inl (cJ, 49, .inr (.inl fl)))] H → va_D A [(aO, .inr (0, [.ref aR, .ref gC, .ref gL, .int to, .long un])), (aR, .inr (5, [.int (r 0), .int (r 1), .int (r 2), .int (r 3), .int (r 4), .int (r 5), .int (r 6)])), (gC, .inr (1, [.int 7, .ref gCc])), (gCc, .inl (cJ, 49, .inr (.inl fc))), (gL, .inr (1, [.int 7, .ref gLc])), (gLc, .inl (cJ, 49, .inr (.inl fl)))] → va_S A s.heap H locs → lv_has ls 6 [(0, .ref aO), (1, .int x1), (2, .int x2), (3, .int x3), (4, .int x4)] → W p l e rmX0_reckonScore s m args below meth c H locs 0 0 (MQ below (qV (dC, dI) (q_T cI cJ cZ) [(aO, .inr (0, [.ref aR, .ref gC, .ref gL, .int to, .long un])), (aR, .inr (5, [.int (r 0), .int (r 1), .int (r 2), .int (r 3), .int (r 4), .int (r 5), .int (r 6)])), (gC, .inr (1, [.int 7, .ref gCc])), (gCc, .inl (cJ, 49, .inr (.inl R.1))), (gL, .inr (1, [.int 7, .ref gLc])), (gLc, .inl (cJ, 49, .inr (.inl R.2)))] A) args s 0 0 A) (F0 m 0 ls []) := by
  obtain ⟨hx, hb, hml, hown, hts, hrt, hlk, hK, hX, hA⟩ := id C0
  intro H locs ls hP hD hS hl
  refine lv_aload_n hx hb dX0_reckonScore_0 rfl (lv_at hl 0 rfl) ?_
  refine q_get (TT := TX0) C0 in_X0_reckonScore_X0 0 m_X0_reckonScore_f23 hP 0 rfl rfl (by decide) rfl rfl dX0_reckonScore_1 ?_
  refine lv_aload_n hx hb dX0_reckonScore_4 rfl (lv_at hl 0 rfl) ?_
  refine q_get (TT := TX0) C0 in_X0_reckonScore_X0 0 m_X0_reckonScore_f23 hP 0 rfl rfl (by decide) rfl rfl dX0_reckonScore_5 ?_
  refine q_get (TT := TX5) C0 in_X0_reckonScore_X5 6 m_X0_reckonScore_f48 hP 1 rfl rfl (by decide) rfl rfl dX0_reckonScore_8 ?_
  refine lv_iload_n hx hb dX0_reckonScore_11 rfl (lv_at hl 1 rfl) ?_
  refine lv_iload_n hx hb dX0_reckonScore_12 rfl (lv_at hl 2 rfl) ?_
  obtain ⟨r5, hg6, hf⟩ := q_e1 hf
  refine q_endI (wc := [(aR, .inr (5, [.int (r 0), .int (r 1), .int (r 2), .int (r 3), .int (r 4), .int (r 5), .int (r 6)]))]) (wr := [(aO, .inr (0, [.ref aR, .ref gC, .ref gL, .int to, .long un])), (gC, .inr (1, [.int 7, .ref gCc])), (gCc, .inl (cJ, 49, .inr (.inl fc))), (gL, .inr (1, [.int 7, .ref gLc])), (gLc, .inl (cJ, 49, .inr (.inl fl)))]) (w1 := [(aR, .inr (5, [.int (r 0), .int (r 1), .int (r 2), .int (r 3), .int (r 4), .int (r 5), .int (r 6)]))]) (rv := r5) C0 hP hD hS [1] [0, 2, 3, 4, 5] rfl rfl (by decide) (by decide) (q_runV (TT := TX5) (N := 7) (ci := 5) (q0 := 0) C0 (c_X5_gameWinner (l := l) hg6) (cwV 3 hts gX0_reckonScore_X5_gameWinner rfl rfl rfl (by decide +kernel) ⟨Nat.le_of_ble_eq_true rfl, Nat.le_of_ble_eq_true rfl⟩) hP hD hS [1] rfl (by decide) rfl rfl rfl rfl hl.1 (Nat.le_of_ble_eq_true rfl) dX0_reckonScore_13) (fun H locs hP hD hS => ?_)
  have hP : va_P (dC, dI) vwCl [(aO, .inr (0, [.ref aR, .ref gC, .ref gL, .int to, .long un])), (gC, .inr (1, [.int 7, .ref gCc])), (gCc, .inl (cJ, 49, .inr (.inl fc))), (gL, .inr (1, [.int 7, .ref gLc])), (gLc, .inl (cJ, 49, .inr (.inl fl))), (aR, .inr (5, [.int (r 0), .int (r 1), .int (r 2), .int (r 3), .int (r 4), .int (r 5), .int (r 6)]))] H := hP
  have hD : va_D A [(aO, .inr (0, [.ref aR, .ref gC, .ref gL, .int to, .long un])), (gC, .inr (1, [.int 7, .ref gCc])), (gCc, .inl (cJ, 49, .inr (.inl fc))), (gL, .inr (1, [.int 7, .ref gLc])), (gLc, .inl (cJ, 49, .inr (.inl fl))), (aR, .inr (5, [.int (r 0), .int (r 1), .int (r 2), .int (r 3), .int (r 4), .int (r 5), .int (r 6)]))] := hD
  refine lv_istore (lv' := [(5, .int r5), (0, .ref aO), (1, .int x1), (2, .int x2), (3, .int x3), (4, .int x4)]) hx hb dX0_reckonScore_16 hl (by decide) rfl (fun ls hl => ?_)
  refine lv_iload hx hb dX0_reckonScore_18 (lv_at hl 0 rfl) ?_
  refine lv_if_eq (tgt := 61) hx hb dX0_reckonScore_20 (by decide) (fun hc7 => ?_) (fun hc7 => ?_)
  · have hf := q_if hf hc7
    refine lv_iload_n hx hb dX0_reckonScore_61 rfl (lv_at hl 2 rfl) ?_
    refine lv_iload_n hx hb dX0_reckonScore_62 rfl (lv_at hl 3 rfl) ?_
    refine lv_iadd hx hb dX0_reckonScore_63 ?_
    refine lv_iconst (v := 2) hx hb dX0_reckonScore_64 (by decide) ?_
    refine lv_aload_n hx hb dX0_reckonScore_65 rfl (lv_at hl 1 rfl) ?_
    refine q_get (TT := TX0) C0 in_X0_reckonScore_X0 3 m_X0_reckonScore_f33 hP 0 rfl rfl (by decide) rfl rfl dX0_reckonScore_66 ?_
    refine lv_imul hx hb dX0_reckonScore_69 ?_
    refine lv_icmp_ne (tgt := 101) hx hb dX0_reckonScore_70 (by decide) (fun hc8 => ?_) (fun hc8 => ?_)
    · have hf := q_nif hf hc8
      refine lv_aload_n hx hb dX0_reckonScore_101 rfl (lv_at hl 1 rfl) ?_
      refine q_get (TT := TX0) C0 in_X0_reckonScore_X0 1 m_X0_reckonScore_f14 hP 0 rfl rfl (by decide) rfl rfl dX0_reckonScore_102 ?_
      refine lv_iload_n hx hb dX0_reckonScore_105 rfl (lv_at hl 2 rfl) ?_
      refine lv_iload_n hx hb dX0_reckonScore_106 rfl (lv_at hl 3 rfl) ?_
      refine lv_iload_n hx hb dX0_reckonScore_107 rfl (lv_at hl 4 rfl) ?_
      refine lv_i2l (v := Int32.toInt64 x3) hx hb dX0_reckonScore_108 rfl ?_
      refine lv_aload_n hx hb dX0_reckonScore_109 rfl (lv_at hl 1 rfl) ?_
      refine q_get (TT := TX0) C0 in_X0_reckonScore_X0 1 m_X0_reckonScore_f14 hP 0 rfl rfl (by decide) rfl rfl dX0_reckonScore_110 ?_
      refine lv_iload_n hx hb dX0_reckonScore_113 rfl (lv_at hl 2 rfl) ?_
      refine lv_iconst (v := 1) hx hb dX0_reckonScore_114 (by decide) ?_
      refine lv_iadd hx hb dX0_reckonScore_115 ?_
      refine lv_iload_n hx hb dX0_reckonScore_116 rfl (lv_at hl 3 rfl) ?_
      obtain ⟨r9, hg10, hf⟩ := q_e1 hf
      refine q_endL (wc := [(gC, .inr (1, [.int 7, .ref gCc])), (gCc, .inl (cJ, 49, .inr (.inl fc)))]) (wr := [(aO, .inr (0, [.ref aR, .ref gC, .ref gL, .int to, .long un])), (gL, .inr (1, [.int 7, .ref gLc])), (gLc, .inl (cJ, 49, .inr (.inl fl))), (aR, .inr (5, [.int (r 0), .int (r 1), .int (r 2), .int (r 3), .int (r 4), .int (r 5), .int (r 6)]))]) (w1 := [(gC, .inr (1, [.int 7, .ref gCc])), (gCc, .inl (cJ, 49, .inr (.inl fc)))]) (rv := r9) C0 hP hD hS [1, 2] [0, 3, 4, 5] rfl rfl (by decide) (by decide) (q_runV (TT := TX1) (N := 2) (ci := 1) (q0 := 0) C0 (c_X1_at (l := l) hg10) (cwV 2 hts gX0_reckonScore_X1_at rfl rfl rfl (by decide +kernel) ⟨Nat.le_of_ble_eq_true rfl, Nat.le_of_ble_eq_true rfl⟩) hP hD hS [1, 2] rfl (by decide) rfl rfl rfl rfl hl.1 (Nat.le_of_ble_eq_true rfl) dX0_reckonScore_117) (fun H locs hP hD hS => ?_)
      have hP : va_P (dC, dI) vwCl [(aO, .inr (0, [.ref aR, .ref gC, .ref gL, .int to, .long un])), (gL, .inr (1, [.int 7, .ref gLc])), (gLc, .inl (cJ, 49, .inr (.inl fl))), (aR, .inr (5, [.int (r 0), .int (r 1), .int (r 2), .int (r 3), .int (r 4), .int (r 5), .int (r 6)])), (gC, .inr (1, [.int 7, .ref gCc])), (gCc, .inl (cJ, 49, .inr (.inl fc)))] H := hP
      have hD : va_D A [(aO, .inr (0, [.ref aR, .ref gC, .ref gL, .int to, .long un])), (gL, .inr (1, [.int 7, .ref gLc])), (gLc, .inl (cJ, 49, .inr (.inl fl))), (aR, .inr (5, [.int (r 0), .int (r 1), .int (r 2), .int (r 3), .int (r 4), .int (r 5), .int (r 6)])), (gC, .inr (1, [.int 7, .ref gCc])), (gCc, .inl (cJ, 49, .inr (.inl fc)))] := hD
      refine lv_lmul hx hb dX0_reckonScore_120 ?_
      refine lv_iload hx hb dX0_reckonScore_121 (lv_at hl 5 rfl) ?_
      refine lv_i2l (v := Int32.toInt64 x4) hx hb dX0_reckonScore_123 rfl ?_
      refine lv_aload_n hx hb dX0_reckonScore_124 rfl (lv_at hl 1 rfl) ?_
      refine q_get (TT := TX0) C0 in_X0_reckonScore_X0 1 m_X0_reckonScore_f14 hP 0 rfl rfl (by decide) rfl rfl dX0_reckonScore_125 ?_
      refine lv_iload_n hx hb dX0_reckonScore_128 rfl (lv_at hl 2 rfl) ?_
      refine lv_iload_n hx hb dX0_reckonScore_129 rfl (lv_at hl 3 rfl) ?_
      refine lv_iconst (v := 1) hx hb dX0_reckonScore_130 (by decide) ?_
      refine lv_iadd hx hb dX0_reckonScore_131 ?_
      obtain ⟨r11, hg12, hf⟩ := q_e1 hf
      refine q_endL (wc := [(gC, .inr (1, [.int 7, .ref gCc])), (gCc, .inl (cJ, 49, .inr (.inl fc)))]) (wr := [(aO, .inr (0, [.ref aR, .ref gC, .ref gL, .int to, .long un])), (gL, .inr (1, [.int 7, .ref gLc])), (gLc, .inl (cJ, 49, .inr (.inl fl))), (aR, .inr (5, [.int (r 0), .int (r 1), .int (r 2), .int (r 3), .int (r 4), .int (r 5), .int (r 6)]))]) (w1 := [(gC, .inr (1, [.int 7, .ref gCc])), (gCc, .inl (cJ, 49, .inr (.inl fc)))]) (rv := r11) C0 hP hD hS [4, 5] [0, 1, 2, 3] rfl rfl (by decide) (by decide) (q_runV (TT := TX1) (N := 2) (ci := 1) (q0 := 0) C0 (c_X1_at (l := l) hg12) (cwV 2 hts gX0_reckonScore_X1_at rfl rfl rfl (by decide +kernel) ⟨Nat.le_of_ble_eq_true rfl, Nat.le_of_ble_eq_true rfl⟩) hP hD hS [4, 5] rfl (by decide) rfl rfl rfl rfl hl.1 (Nat.le_of_ble_eq_true rfl) dX0_reckonScore_132) (fun H locs hP hD hS => ?_)
      have hP : va_P (dC, dI) vwCl [(aO, .inr (0, [.ref aR, .ref gC, .ref gL, .int to, .long un])), (gL, .inr (1, [.int 7, .ref gLc])), (gLc, .inl (cJ, 49, .inr (.inl fl))), (aR, .inr (5, [.int (r 0), .int (r 1), .int (r 2), .int (r 3), .int (r 4), .int (r 5), .int (r 6)])), (gC, .inr (1, [.int 7, .ref gCc])), (gCc, .inl (cJ, 49, .inr (.inl fc)))] H := hP
      have hD : va_D A [(aO, .inr (0, [.ref aR, .ref gC, .ref gL, .int to, .long un])), (gL, .inr (1, [.int 7, .ref gLc])), (gLc, .inl (cJ, 49, .inr (.inl fl))), (aR, .inr (5, [.int (r 0), .int (r 1), .int (r 2), .int (r 3), .int (r 4), .int (r 5), .int (r 6)])), (gC, .inr (1, [.int 7, .ref gCc])), (gCc, .inl (cJ, 49, .inr (.inl fc)))] := hD
      refine lv_lmul hx hb dX0_reckonScore_135 ?_
      refine lv_ladd hx hb dX0_reckonScore_136 ?_
      obtain ⟨f13, hg14, hf⟩ := q_e1 hf
      refine q_endV (wc := [(gC, .inr (1, [.int 7, .ref gCc])), (gCc, .inl (cJ, 49, .inr (.inl fc)))]) (wr := [(aO, .inr (0, [.ref aR, .ref gC, .ref gL, .int to, .long un])), (gL, .inr (1, [.int 7, .ref gLc])), (gLc, .inl (cJ, 49, .inr (.inl fl))), (aR, .inr (5, [.int (r 0), .int (r 1), .int (r 2), .int (r 3), .int (r 4), .int (r 5), .int (r 6)]))]) (w1 := [(gC, .inr (1, [.int 7, .ref gCc])), (gCc, .inl (cJ, 49, .inr (.inl f13)))]) C0 hP hD hS [4, 5] [0, 1, 2, 3] rfl rfl (by decide) (by decide) (q_runV (TT := TX1) (N := 2) (ci := 1) (q0 := 0) C0 (c_X1_put (l := l) hg14) (cwV 3 hts gX0_reckonScore_X1_put rfl rfl rfl (by decide +kernel) ⟨Nat.le_of_ble_eq_true rfl, Nat.le_of_ble_eq_true rfl⟩) hP hD hS [4, 5] rfl (by decide) rfl rfl rfl rfl hl.1 (Nat.le_of_ble_eq_true rfl) dX0_reckonScore_137) (fun H locs hP hD hS => ?_)
      have hP : va_P (dC, dI) vwCl [(aO, .inr (0, [.ref aR, .ref gC, .ref gL, .int to, .long un])), (gL, .inr (1, [.int 7, .ref gLc])), (gLc, .inl (cJ, 49, .inr (.inl fl))), (aR, .inr (5, [.int (r 0), .int (r 1), .int (r 2), .int (r 3), .int (r 4), .int (r 5), .int (r 6)])), (gC, .inr (1, [.int 7, .ref gCc])), (gCc, .inl (cJ, 49, .inr (.inl f13)))] H := hP
      have hD : va_D A [(aO, .inr (0, [.ref aR, .ref gC, .ref gL, .int to, .long un])), (gL, .inr (1, [.int 7, .ref gLc])), (gLc, .inl (cJ, 49, .inr (.inl fl))), (aR, .inr (5, [.int (r 0), .int (r 1), .int (r 2), .int (r 3), .int (r 4), .int (r 5), .int (r 6)])), (gC, .inr (1, [.int 7, .ref gCc])), (gCc, .inl (cJ, 49, .inr (.inl f13)))] := hD
      refine lv_aload_n hx hb dX0_reckonScore_140 rfl (lv_at hl 1 rfl) ?_
      refine q_get (TT := TX0) C0 in_X0_reckonScore_X0 2 m_X0_reckonScore_f20 hP 0 rfl rfl (by decide) rfl rfl dX0_reckonScore_141 ?_
      refine lv_iload_n hx hb dX0_reckonScore_144 rfl (lv_at hl 2 rfl) ?_
      refine lv_iload_n hx hb dX0_reckonScore_145 rfl (lv_at hl 3 rfl) ?_
      refine lv_aload_n hx hb dX0_reckonScore_146 rfl (lv_at hl 1 rfl) ?_
      refine lv_iload_n hx hb dX0_reckonScore_147 rfl (lv_at hl 2 rfl) ?_
      refine lv_iload_n hx hb dX0_reckonScore_148 rfl (lv_at hl 3 rfl) ?_
      obtain ⟨r15, hg16, hf⟩ := q_e1 hf
      refine q_endL (wc := [(aO, .inr (0, [.ref aR, .ref gC, .ref gL, .int to, .long un])), (aR, .inr (5, [.int (r 0), .int (r 1), .int (r 2), .int (r 3), .int (r 4), .int (r 5), .int (r 6)])), (gC, .inr (1, [.int 7, .ref gCc])), (gCc, .inl (cJ, 49, .inr (.inl f13))), (gL, .inr (1, [.int 7, .ref gLc])), (gLc, .inl (cJ, 49, .inr (.inl fl)))]) (wr := []) (w1 := [(aO, .inr (0, [.ref aR, .ref gC, .ref gL, .int to, .long un])), (aR, .inr (5, [.int (r 0), .int (r 1), .int (r 2), .int (r 3), .int (r 4), .int (r 5), .int (r 6)])), (gC, .inr (1, [.int 7, .ref gCc])), (gCc, .inl (cJ, 49, .inr (.inl f13))), (gL, .inr (1, [.int 7, .ref gLc])), (gLc, .inl (cJ, 49, .inr (.inl fl)))]) (rv := r15) C0 hP hD hS [0, 3, 4, 5, 1, 2] [] rfl rfl (by decide) (by decide) (q_runV (TT := TX0) (N := 5) (ci := 0) (q0 := 0) C0 (c_X0_bottom (l := l) hg16) (cwV 2 hts gX0_reckonScore_X0_bottom rfl rfl rfl (by decide +kernel) ⟨Nat.le_of_ble_eq_true rfl, Nat.le_of_ble_eq_true rfl⟩) hP hD hS [0, 3, 4, 5, 1, 2] rfl (by decide) rfl rfl rfl rfl hl.1 (Nat.le_of_ble_eq_true rfl) dX0_reckonScore_149) (fun H locs hP hD hS => ?_)
      have hP : va_P (dC, dI) vwCl [(aO, .inr (0, [.ref aR, .ref gC, .ref gL, .int to, .long un])), (aR, .inr (5, [.int (r 0), .int (r 1), .int (r 2), .int (r 3), .int (r 4), .int (r 5), .int (r 6)])), (gC, .inr (1, [.int 7, .ref gCc])), (gCc, .inl (cJ, 49, .inr (.inl f13))), (gL, .inr (1, [.int 7, .ref gLc])), (gLc, .inl (cJ, 49, .inr (.inl fl)))] H := hP
      have hD : va_D A [(aO, .inr (0, [.ref aR, .ref gC, .ref gL, .int to, .long un])), (aR, .inr (5, [.int (r 0), .int (r 1), .int (r 2), .int (r 3), .int (r 4), .int (r 5), .int (r 6)])), (gC, .inr (1, [.int 7, .ref gCc])), (gCc, .inl (cJ, 49, .inr (.inl f13))), (gL, .inr (1, [.int 7, .ref gLc])), (gLc, .inl (cJ, 49, .inr (.inl fl)))] := hD
      refine lv_iload_n hx hb dX0_reckonScore_152 rfl (lv_at hl 4 rfl) ?_
      refine lv_i2l (v := Int32.toInt64 x3) hx hb dX0_reckonScore_153 rfl ?_
      refine lv_aload_n hx hb dX0_reckonScore_154 rfl (lv_at hl 1 rfl) ?_
      refine q_get (TT := TX0) C0 in_X0_reckonScore_X0 2 m_X0_reckonScore_f20 hP 0 rfl rfl (by decide) rfl rfl dX0_reckonScore_155 ?_
      refine lv_iload_n hx hb dX0_reckonScore_158 rfl (lv_at hl 2 rfl) ?_
      refine lv_iconst (v := 1) hx hb dX0_reckonScore_159 (by decide) ?_
      refine lv_iadd hx hb dX0_reckonScore_160 ?_
      refine lv_iload_n hx hb dX0_reckonScore_161 rfl (lv_at hl 3 rfl) ?_
      obtain ⟨r17, hg18, hf⟩ := q_e1 hf
      refine q_endL (wc := [(gL, .inr (1, [.int 7, .ref gLc])), (gLc, .inl (cJ, 49, .inr (.inl fl)))]) (wr := [(aO, .inr (0, [.ref aR, .ref gC, .ref gL, .int to, .long un])), (aR, .inr (5, [.int (r 0), .int (r 1), .int (r 2), .int (r 3), .int (r 4), .int (r 5), .int (r 6)])), (gC, .inr (1, [.int 7, .ref gCc])), (gCc, .inl (cJ, 49, .inr (.inl f13)))]) (w1 := [(gL, .inr (1, [.int 7, .ref gLc])), (gLc, .inl (cJ, 49, .inr (.inl fl)))]) (rv := r17) C0 hP hD hS [4, 5] [0, 1, 2, 3] rfl rfl (by decide) (by decide) (q_runV (TT := TX1) (N := 2) (ci := 1) (q0 := 0) C0 (c_X1_at (l := l) hg18) (cwV 2 hts gX0_reckonScore_X1_at rfl rfl rfl (by decide +kernel) ⟨Nat.le_of_ble_eq_true rfl, Nat.le_of_ble_eq_true rfl⟩) hP hD hS [4, 5] rfl (by decide) rfl rfl rfl rfl hl.1 (Nat.le_of_ble_eq_true rfl) dX0_reckonScore_162) (fun H locs hP hD hS => ?_)
      have hP : va_P (dC, dI) vwCl [(aO, .inr (0, [.ref aR, .ref gC, .ref gL, .int to, .long un])), (aR, .inr (5, [.int (r 0), .int (r 1), .int (r 2), .int (r 3), .int (r 4), .int (r 5), .int (r 6)])), (gC, .inr (1, [.int 7, .ref gCc])), (gCc, .inl (cJ, 49, .inr (.inl f13))), (gL, .inr (1, [.int 7, .ref gLc])), (gLc, .inl (cJ, 49, .inr (.inl fl)))] H := hP
      have hD : va_D A [(aO, .inr (0, [.ref aR, .ref gC, .ref gL, .int to, .long un])), (aR, .inr (5, [.int (r 0), .int (r 1), .int (r 2), .int (r 3), .int (r 4), .int (r 5), .int (r 6)])), (gC, .inr (1, [.int 7, .ref gCc])), (gCc, .inl (cJ, 49, .inr (.inl f13))), (gL, .inr (1, [.int 7, .ref gLc])), (gLc, .inl (cJ, 49, .inr (.inl fl)))] := hD
      refine lv_lmul hx hb dX0_reckonScore_165 ?_
      refine lv_ladd hx hb dX0_reckonScore_166 ?_
      refine lv_iload hx hb dX0_reckonScore_167 (lv_at hl 5 rfl) ?_
      refine lv_i2l (v := Int32.toInt64 x4) hx hb dX0_reckonScore_169 rfl ?_
      refine lv_aload_n hx hb dX0_reckonScore_170 rfl (lv_at hl 1 rfl) ?_
      refine q_get (TT := TX0) C0 in_X0_reckonScore_X0 2 m_X0_reckonScore_f20 hP 0 rfl rfl (by decide) rfl rfl dX0_reckonScore_171 ?_
      refine lv_iload_n hx hb dX0_reckonScore_174 rfl (lv_at hl 2 rfl) ?_
      refine lv_iload_n hx hb dX0_reckonScore_175 rfl (lv_at hl 3 rfl) ?_
      refine lv_iconst (v := 1) hx hb dX0_reckonScore_176 (by decide) ?_
      refine lv_iadd hx hb dX0_reckonScore_177 ?_
      obtain ⟨r19, hg20, hf⟩ := q_e1 hf
      refine q_endL (wc := [(gL, .inr (1, [.int 7, .ref gLc])), (gLc, .inl (cJ, 49, .inr (.inl fl)))]) (wr := [(aO, .inr (0, [.ref aR, .ref gC, .ref gL, .int to, .long un])), (aR, .inr (5, [.int (r 0), .int (r 1), .int (r 2), .int (r 3), .int (r 4), .int (r 5), .int (r 6)])), (gC, .inr (1, [.int 7, .ref gCc])), (gCc, .inl (cJ, 49, .inr (.inl f13)))]) (w1 := [(gL, .inr (1, [.int 7, .ref gLc])), (gLc, .inl (cJ, 49, .inr (.inl fl)))]) (rv := r19) C0 hP hD hS [4, 5] [0, 1, 2, 3] rfl rfl (by decide) (by decide) (q_runV (TT := TX1) (N := 2) (ci := 1) (q0 := 0) C0 (c_X1_at (l := l) hg20) (cwV 2 hts gX0_reckonScore_X1_at rfl rfl rfl (by decide +kernel) ⟨Nat.le_of_ble_eq_true rfl, Nat.le_of_ble_eq_true rfl⟩) hP hD hS [4, 5] rfl (by decide) rfl rfl rfl rfl hl.1 (Nat.le_of_ble_eq_true rfl) dX0_reckonScore_178) (fun H locs hP hD hS => ?_)
      have hP : va_P (dC, dI) vwCl [(aO, .inr (0, [.ref aR, .ref gC, .ref gL, .int to, .long un])), (aR, .inr (5, [.int (r 0), .int (r 1), .int (r 2), .int (r 3), .int (r 4), .int (r 5), .int (r 6)])), (gC, .inr (1, [.int 7, .ref gCc])), (gCc, .inl (cJ, 49, .inr (.inl f13))), (gL, .inr (1, [.int 7, .ref gLc])), (gLc, .inl (cJ, 49, .inr (.inl fl)))] H := hP
      have hD : va_D A [(aO, .inr (0, [.ref aR, .ref gC, .ref gL, .int to, .long un])), (aR, .inr (5, [.int (r 0), .int (r 1), .int (r 2), .int (r 3), .int (r 4), .int (r 5), .int (r 6)])), (gC, .inr (1, [.int 7, .ref gCc])), (gCc, .inl (cJ, 49, .inr (.inl f13))), (gL, .inr (1, [.int 7, .ref gLc])), (gLc, .inl (cJ, 49, .inr (.inl fl)))] := hD
      refine lv_lmul hx hb dX0_reckonScore_181 ?_
      refine lv_ladd hx hb dX0_reckonScore_182 ?_
      obtain ⟨f21, hg22, hf⟩ := q_e1 hf
      refine q_endV (wc := [(gL, .inr (1, [.int 7, .ref gLc])), (gLc, .inl (cJ, 49, .inr (.inl fl)))]) (wr := [(aO, .inr (0, [.ref aR, .ref gC, .ref gL, .int to, .long un])), (aR, .inr (5, [.int (r 0), .int (r 1), .int (r 2), .int (r 3), .int (r 4), .int (r 5), .int (r 6)])), (gC, .inr (1, [.int 7, .ref gCc])), (gCc, .inl (cJ, 49, .inr (.inl f13)))]) (w1 := [(gL, .inr (1, [.int 7, .ref gLc])), (gLc, .inl (cJ, 49, .inr (.inl f21)))]) C0 hP hD hS [4, 5] [0, 1, 2, 3] rfl rfl (by decide) (by decide) (q_runV (TT := TX1) (N := 2) (ci := 1) (q0 := 0) C0 (c_X1_put (l := l) hg22) (cwV 3 hts gX0_reckonScore_X1_put rfl rfl rfl (by decide +kernel) ⟨Nat.le_of_ble_eq_true rfl, Nat.le_of_ble_eq_true rfl⟩) hP hD hS [4, 5] rfl (by decide) rfl rfl rfl rfl hl.1 (Nat.le_of_ble_eq_true rfl) dX0_reckonScore_183) (fun H locs hP hD hS => ?_)
      have hP : va_P (dC, dI) vwCl [(aO, .inr (0, [.ref aR, .ref gC, .ref gL, .int to, .long un])), (aR, .inr (5, [.int (r 0), .int (r 1), .int (r 2), .int (r 3), .int (r 4), .int (r 5), .int (r 6)])), (gC, .inr (1, [.int 7, .ref gCc])), (gCc, .inl (cJ, 49, .inr (.inl f13))), (gL, .inr (1, [.int 7, .ref gLc])), (gLc, .inl (cJ, 49, .inr (.inl f21)))] H := hP
      have hD : va_D A [(aO, .inr (0, [.ref aR, .ref gC, .ref gL, .int to, .long un])), (aR, .inr (5, [.int (r 0), .int (r 1), .int (r 2), .int (r 3), .int (r 4), .int (r 5), .int (r 6)])), (gC, .inr (1, [.int 7, .ref gCc])), (gCc, .inl (cJ, 49, .inr (.inl f13))), (gL, .inr (1, [.int 7, .ref gLc])), (gLc, .inl (cJ, 49, .inr (.inl f21)))] := hD
      obtain rfl := Option.some.inj hf
      exact q_retV C0 hP hD hS dX0_reckonScore_186
    · have hf := q_if hf hc8
      refine lv_aload_n hx hb dX0_reckonScore_73 rfl (lv_at hl 1 rfl) ?_
      refine q_get (TT := TX0) C0 in_X0_reckonScore_X0 1 m_X0_reckonScore_f14 hP 0 rfl rfl (by decide) rfl rfl dX0_reckonScore_74 ?_
      refine lv_iload_n hx hb dX0_reckonScore_77 rfl (lv_at hl 2 rfl) ?_
      refine lv_iload_n hx hb dX0_reckonScore_78 rfl (lv_at hl 3 rfl) ?_
      refine lv_iload_n hx hb dX0_reckonScore_79 rfl (lv_at hl 4 rfl) ?_
      refine lv_iload_n hx hb dX0_reckonScore_80 rfl (lv_at hl 4 rfl) ?_
      refine lv_imul hx hb dX0_reckonScore_81 ?_
      refine lv_i2l (v := Int32.toInt64 (x3 * x3)) hx hb dX0_reckonScore_82 rfl ?_
      obtain ⟨f23, hg24, hf⟩ := q_e1 hf
      refine q_endV (wc := [(gC, .inr (1, [.int 7, .ref gCc])), (gCc, .inl (cJ, 49, .inr (.inl fc)))]) (wr := [(aO, .inr (0, [.ref aR, .ref gC, .ref gL, .int to, .long un])), (gL, .inr (1, [.int 7, .ref gLc])), (gLc, .inl (cJ, 49, .inr (.inl fl))), (aR, .inr (5, [.int (r 0), .int (r 1), .int (r 2), .int (r 3), .int (r 4), .int (r 5), .int (r 6)]))]) (w1 := [(gC, .inr (1, [.int 7, .ref gCc])), (gCc, .inl (cJ, 49, .inr (.inl f23)))]) C0 hP hD hS [1, 2] [0, 3, 4, 5] rfl rfl (by decide) (by decide) (q_runV (TT := TX1) (N := 2) (ci := 1) (q0 := 0) C0 (c_X1_put (l := l) hg24) (cwV 3 hts gX0_reckonScore_X1_put rfl rfl rfl (by decide +kernel) ⟨Nat.le_of_ble_eq_true rfl, Nat.le_of_ble_eq_true rfl⟩) hP hD hS [1, 2] rfl (by decide) rfl rfl rfl rfl hl.1 (Nat.le_of_ble_eq_true rfl) dX0_reckonScore_83) (fun H locs hP hD hS => ?_)
      have hP : va_P (dC, dI) vwCl [(aO, .inr (0, [.ref aR, .ref gC, .ref gL, .int to, .long un])), (gL, .inr (1, [.int 7, .ref gLc])), (gLc, .inl (cJ, 49, .inr (.inl fl))), (aR, .inr (5, [.int (r 0), .int (r 1), .int (r 2), .int (r 3), .int (r 4), .int (r 5), .int (r 6)])), (gC, .inr (1, [.int 7, .ref gCc])), (gCc, .inl (cJ, 49, .inr (.inl f23)))] H := hP
      have hD : va_D A [(aO, .inr (0, [.ref aR, .ref gC, .ref gL, .int to, .long un])), (gL, .inr (1, [.int 7, .ref gLc])), (gLc, .inl (cJ, 49, .inr (.inl fl))), (aR, .inr (5, [.int (r 0), .int (r 1), .int (r 2), .int (r 3), .int (r 4), .int (r 5), .int (r 6)])), (gC, .inr (1, [.int 7, .ref gCc])), (gCc, .inl (cJ, 49, .inr (.inl f23)))] := hD
      refine lv_aload_n hx hb dX0_reckonScore_86 rfl (lv_at hl 1 rfl) ?_
      refine q_get (TT := TX0) C0 in_X0_reckonScore_X0 2 m_X0_reckonScore_f20 hP 0 rfl rfl (by decide) rfl rfl dX0_reckonScore_87 ?_
      refine lv_iload_n hx hb dX0_reckonScore_90 rfl (lv_at hl 2 rfl) ?_
      refine lv_iload_n hx hb dX0_reckonScore_91 rfl (lv_at hl 3 rfl) ?_
      refine lv_ldc2 hx hb hown (hts _ m_X0_reckonScore_k73) dX0_reckonScore_92 ?_
      obtain ⟨f25, hg26, hf⟩ := q_e1 hf
      refine q_endV (wc := [(gL, .inr (1, [.int 7, .ref gLc])), (gLc, .inl (cJ, 49, .inr (.inl fl)))]) (wr := [(aO, .inr (0, [.ref aR, .ref gC, .ref gL, .int to, .long un])), (aR, .inr (5, [.int (r 0), .int (r 1), .int (r 2), .int (r 3), .int (r 4), .int (r 5), .int (r 6)])), (gC, .inr (1, [.int 7, .ref gCc])), (gCc, .inl (cJ, 49, .inr (.inl f23)))]) (w1 := [(gL, .inr (1, [.int 7, .ref gLc])), (gLc, .inl (cJ, 49, .inr (.inl f25)))]) C0 hP hD hS [1, 2] [0, 3, 4, 5] rfl rfl (by decide) (by decide) (q_runV (TT := TX1) (N := 2) (ci := 1) (q0 := 0) C0 (c_X1_put (l := l) hg26) (cwV 3 hts gX0_reckonScore_X1_put rfl rfl rfl (by decide +kernel) ⟨Nat.le_of_ble_eq_true rfl, Nat.le_of_ble_eq_true rfl⟩) hP hD hS [1, 2] rfl (by decide) rfl rfl rfl rfl hl.1 (Nat.le_of_ble_eq_true rfl) dX0_reckonScore_95) (fun H locs hP hD hS => ?_)
      have hP : va_P (dC, dI) vwCl [(aO, .inr (0, [.ref aR, .ref gC, .ref gL, .int to, .long un])), (aR, .inr (5, [.int (r 0), .int (r 1), .int (r 2), .int (r 3), .int (r 4), .int (r 5), .int (r 6)])), (gC, .inr (1, [.int 7, .ref gCc])), (gCc, .inl (cJ, 49, .inr (.inl f23))), (gL, .inr (1, [.int 7, .ref gLc])), (gLc, .inl (cJ, 49, .inr (.inl f25)))] H := hP
      have hD : va_D A [(aO, .inr (0, [.ref aR, .ref gC, .ref gL, .int to, .long un])), (aR, .inr (5, [.int (r 0), .int (r 1), .int (r 2), .int (r 3), .int (r 4), .int (r 5), .int (r 6)])), (gC, .inr (1, [.int 7, .ref gCc])), (gCc, .inl (cJ, 49, .inr (.inl f23))), (gL, .inr (1, [.int 7, .ref gLc])), (gLc, .inl (cJ, 49, .inr (.inl f25)))] := hD
      refine lv_goto (tgt := 186) hx hb dX0_reckonScore_98 (by decide) ?_
      obtain rfl := Option.some.inj hf
      exact q_retV C0 hP hD hS dX0_reckonScore_186
  · have hf := q_nif hf hc7
    refine lv_aload_n hx hb dX0_reckonScore_23 rfl (lv_at hl 1 rfl) ?_
    refine q_get (TT := TX0) C0 in_X0_reckonScore_X0 1 m_X0_reckonScore_f14 hP 0 rfl rfl (by decide) rfl rfl dX0_reckonScore_24 ?_
    refine lv_iload_n hx hb dX0_reckonScore_27 rfl (lv_at hl 2 rfl) ?_
    refine lv_iload_n hx hb dX0_reckonScore_28 rfl (lv_at hl 3 rfl) ?_
    refine lv_iload hx hb dX0_reckonScore_29 (lv_at hl 0 rfl) ?_
    refine lv_iconst (v := 1) hx hb dX0_reckonScore_31 (by decide) ?_
    refine lv_icmp_ne (tgt := 44) hx hb dX0_reckonScore_32 (by decide) (fun hc27 => ?_) (fun hc27 => ?_)
    · have hf := q_nif hf hc27
      refine lv_lconst (v := 0) hx hb dX0_reckonScore_44 (by decide) ?_
      exact B_X0_reckonScore_45 C0 hf H locs ls (q_sub (wc := [(aO, .inr (0, [.ref aR, .ref gC, .ref gL, .int to, .long un])), (aR, .inr (5, [.int (r 0), .int (r 1), .int (r 2), .int (r 3), .int (r 4), .int (r 5), .int (r 6)])), (gC, .inr (1, [.int 7, .ref gCc])), (gCc, .inl (cJ, 49, .inr (.inl fc))), (gL, .inr (1, [.int 7, .ref gLc])), (gLc, .inl (cJ, 49, .inr (.inl fl)))]) (is := [0, 5, 1, 2, 3, 4]) hP rfl) (hD.sub (ws' := [(aO, .inr (0, [.ref aR, .ref gC, .ref gL, .int to, .long un])), (aR, .inr (5, [.int (r 0), .int (r 1), .int (r 2), .int (r 3), .int (r 4), .int (r 5), .int (r 6)])), (gC, .inr (1, [.int 7, .ref gCc])), (gCc, .inl (cJ, 49, .inr (.inl fc))), (gL, .inr (1, [.int 7, .ref gLc])), (gLc, .inl (cJ, 49, .inr (.inl fl)))]) [0, 5, 1, 2, 3, 4] (by decide) rfl) hS (lv_sub hl [1, 2, 3] rfl)
    · have hf := q_if hf hc27
      refine lv_aload_n hx hb dX0_reckonScore_35 rfl (lv_at hl 1 rfl) ?_
      refine lv_iload_n hx hb dX0_reckonScore_36 rfl (lv_at hl 2 rfl) ?_
      refine lv_iload_n hx hb dX0_reckonScore_37 rfl (lv_at hl 3 rfl) ?_
      obtain ⟨r28, hg29, hf⟩ := q_e1 hf
      refine q_endL (wc := [(aO, .inr (0, [.ref aR, .ref gC, .ref gL, .int to, .long un])), (aR, .inr (5, [.int (r 0), .int (r 1), .int (r 2), .int (r 3), .int (r 4), .int (r 5), .int (r 6)])), (gC, .inr (1, [.int 7, .ref gCc])), (gCc, .inl (cJ, 49, .inr (.inl fc))), (gL, .inr (1, [.int 7, .ref gLc])), (gLc, .inl (cJ, 49, .inr (.inl fl)))]) (wr := []) (w1 := [(aO, .inr (0, [.ref aR, .ref gC, .ref gL, .int to, .long un])), (aR, .inr (5, [.int (r 0), .int (r 1), .int (r 2), .int (r 3), .int (r 4), .int (r 5), .int (r 6)])), (gC, .inr (1, [.int 7, .ref gCc])), (gCc, .inl (cJ, 49, .inr (.inl fc))), (gL, .inr (1, [.int 7, .ref gLc])), (gLc, .inl (cJ, 49, .inr (.inl fl)))]) (rv := r28) C0 hP hD hS [0, 5, 1, 2, 3, 4] [] rfl rfl (by decide) (by decide) (q_runV (TT := TX0) (N := 5) (ci := 0) (q0 := 0) C0 (c_X0_bottom (l := l) hg29) (cwV 2 hts gX0_reckonScore_X0_bottom rfl rfl rfl (by decide +kernel) ⟨Nat.le_of_ble_eq_true rfl, Nat.le_of_ble_eq_true rfl⟩) hP hD hS [0, 5, 1, 2, 3, 4] rfl (by decide) rfl rfl rfl rfl hl.1 (Nat.le_of_ble_eq_true rfl) dX0_reckonScore_38) (fun H locs hP hD hS => ?_)
      have hP : va_P (dC, dI) vwCl [(aO, .inr (0, [.ref aR, .ref gC, .ref gL, .int to, .long un])), (aR, .inr (5, [.int (r 0), .int (r 1), .int (r 2), .int (r 3), .int (r 4), .int (r 5), .int (r 6)])), (gC, .inr (1, [.int 7, .ref gCc])), (gCc, .inl (cJ, 49, .inr (.inl fc))), (gL, .inr (1, [.int 7, .ref gLc])), (gLc, .inl (cJ, 49, .inr (.inl fl)))] H := hP
      have hD : va_D A [(aO, .inr (0, [.ref aR, .ref gC, .ref gL, .int to, .long un])), (aR, .inr (5, [.int (r 0), .int (r 1), .int (r 2), .int (r 3), .int (r 4), .int (r 5), .int (r 6)])), (gC, .inr (1, [.int 7, .ref gCc])), (gCc, .inl (cJ, 49, .inr (.inl fc))), (gL, .inr (1, [.int 7, .ref gLc])), (gLc, .inl (cJ, 49, .inr (.inl fl)))] := hD
      refine lv_goto (tgt := 45) hx hb dX0_reckonScore_41 (by decide) ?_
      exact B_X0_reckonScore_45 C0 hf H locs ls hP hD hS (lv_sub hl [1, 2, 3] rfl)
set_option maxHeartbeats 4000000 in
set_option maxRecDepth 100000 in
theorem c_X0_reckonScore {l : Launch} {dC : Nat → ClassId} {dI : Nat → Nat → Nat} {cI cJ cZ : ClassId} {aO aR gC gCc gL gLc : Nat} {x1 : Int32} {x2 : Int32} {x3 : Int32} {x4 : Int32} {r : (Nat → Int32)} {to : Int32} {un : Int64} {fc : (Nat → Int64)} {fl : (Nat → Int64)} {R : (Nat → Int64) × (Nat → Int64)} (hf : f_X0_reckonScore x1 x2 x3 x4 r to un fc fl = some R) : q_M l yX0_reckonScore wsX0_reckonScore rmX0_reckonScore (dC, dI) (q_T cI cJ cZ) [.ref aO, .int x1, .int x2, .int x3, .int x4] [(aO, .inr (0, [.ref aR, .ref gC, .ref gL, .int to, .long un])), (aR, .inr (5, [.int (r 0), .int (r 1), .int (r 2), .int (r 3), .int (r 4), .int (r 5), .int (r 6)])), (gC, .inr (1, [.int 7, .ref gCc])), (gCc, .inl (cJ, 49, .inr (.inl fc))), (gL, .inr (1, [.int 7, .ref gLc])), (gLc, .inl (cJ, 49, .inr (.inl fl)))] (qV (dC, dI) (q_T cI cJ cZ) [(aO, .inr (0, [.ref aR, .ref gC, .ref gL, .int to, .long un])), (aR, .inr (5, [.int (r 0), .int (r 1), .int (r 2), .int (r 3), .int (r 4), .int (r 5), .int (r 6)])), (gC, .inr (1, [.int 7, .ref gCc])), (gCc, .inl (cJ, 49, .inr (.inl R.1))), (gL, .inr (1, [.int 7, .ref gLc])), (gLc, .inl (cJ, 49, .inr (.inl R.2)))]) := by
  refine q_body (cc := cX0_reckonScore) (maxL := 6) (ret := none) (by decide) rfl (Nat.le_of_ble_eq_true rfl) ?_
  intro p e s m args below meth c A C0 ls hP hD hS hl
  have hl : lv_has ls 6 [(0, .ref aO), (1, .int x1), (2, .int x2), (3, .int x3), (4, .int x4)] := hl
  exact B_X0_reckonScore_0 C0 hf s.heap [] ls hP hD hS hl

/-! ## RungPlay$GameOdds.reckon -/
abbrev rmX0_reckon : Room := { frames := 3, cells := 0, slots := 0, locals := 72 }
theorem m_X0_reckon_f33 : Cond.fieldLink RX0 33 RX0 "to" "I" ∈ wsX0_reckon := by decide +kernel
theorem in_X0_reckon_X0 : ∀ w ∈ wsX00, w ∈ wsX0_reckon := by decide +kernel
theorem m_X0_reckon_l51 : Cond.methodLink RX0 51 Lib.Math.min.name ∈ wsX0_reckon := by decide +kernel
theorem m_X0_reckon_stmin : Cond.static Lib.Math.min.name ∈ wsX0_reckon := by decide +kernel
theorem m_X0_reckon_imath : Cond.initialized "java/lang/Math" ∈ wsX0_reckon := by decide +kernel
theorem m_X0_reckon_cmin : Cond.code Lib.Math.min.name Lib.Math.min.code 2 (some .int) ∈ wsX0_reckon := by decide +kernel
theorem m_X0_reckon_f36 : Cond.fieldLink RX0 36 RX0 "unit" "J" ∈ wsX0_reckon := by decide +kernel
theorem m_X0_reckon_f23 : Cond.fieldLink RX0 23 RX0 "rules" "LRungPlay$Rules;" ∈ wsX0_reckon := by decide +kernel
theorem m_X0_reckon_f27 : Cond.fieldLink RX0 27 RX5 "toPoints" "I" ∈ wsX0_reckon := by decide +kernel
theorem in_X0_reckon_X5 : ∀ w ∈ wsX50, w ∈ wsX0_reckon := by decide +kernel
theorem m_X0_reckon_f48 : Cond.fieldLink RX0 48 RX5 "kind" "I" ∈ wsX0_reckon := by decide +kernel
def b_X0_reckon_84 (k : (Int32 × (Nat → Int64) × (Nat → Int64)) → Option (Int32 × (Nat → Int64) × (Nat → Int64))) (x2 : Int32) (x3 : Int32) (x4 : Int32) (x5 : Int32) (r : (Nat → Int32)) (to : Int32) (un : Int64) (fc : (Nat → Int64)) (fl : (Nat → Int64)) : Option (Int32 × (Nat → Int64) × (Nat → Int64)) :=
  (if x5 < 0 then (some (x5, fc, fl)) else (q_b2 (f_X0_reckonScore x4 x5 x2 x3 r to un fc fl) (fun fc2 fl3 => (k (x5 + (-1), fc2, fl3)))))
noncomputable def l_X0_reckon_84 (x2 : Int32) (x3 : Int32) (x4 : Int32) (r : (Nat → Int32)) (to : Int32) (un : Int64) (n : Nat) : (Int32 × (Nat → Int64) × (Nat → Int64)) → Option (Int32 × (Nat → Int64) × (Nat → Int64)) :=
  Nat.rec (fun _ => none) (fun _ k q => b_X0_reckon_84 k x2 x3 x4 q.1 r to un q.2.1 q.2.2) n
def b_X0_reckon_59 (k : (Int32 × (Nat → Int64) × (Nat → Int64)) → Option (Int32 × (Nat → Int64) × (Nat → Int64))) (x2 : Int32) (x3 : Int32) (x4 : Int32) (r : (Nat → Int32)) (to : Int32) (un : Int64) (fc : (Nat → Int64)) (fl : (Nat → Int64)) : Option (Int32 × (Nat → Int64) × (Nat → Int64)) :=
  (if x4 < 0 then (some (x4, fc, fl)) else (q_b3 (l_X0_reckon_84 x2 x3 x4 r to un 1000 ((if ((2 * to) - x4) < (to + 1) then ((2 * to) - x4) else (to + 1)), fc, fl)) (fun y6 y7 y8 => (k (x4 + (-1), y7, y8)))))
noncomputable def l_X0_reckon_59 (x2 : Int32) (x3 : Int32) (r : (Nat → Int32)) (to : Int32) (un : Int64) (n : Nat) : (Int32 × (Nat → Int64) × (Nat → Int64)) → Option (Int32 × (Nat → Int64) × (Nat → Int64)) :=
  Nat.rec (fun _ => none) (fun _ k q => b_X0_reckon_59 k x2 x3 q.1 r to un q.2.1 q.2.2) n
def b_X0_reckon_48 (x2 : Int32) (x3 : Int32) (s0 : Int64) (r : (Nat → Int32)) (to : Int32) (un : Int64) (fc : (Nat → Int64)) (fl : (Nat → Int64)) : Option (Int32 × Int64 × (Nat → Int64) × (Nat → Int64)) :=
  (q_b3 (l_X0_reckon_59 x2 x3 r to s0 1000 (to + 1, fc, fl)) (fun y10 y11 y12 => (some (to, s0, y11, y12))))
def f_X0_reckon (x1 : Int32) (r : (Nat → Int32)) (to : Int32) (un : Int64) (fc : (Nat → Int64)) (fl : (Nat → Int64)) : Option (Int32 × Int64 × (Nat → Int64) × (Nat → Int64)) :=
  (q_b1 (f_X5_tenthsOfA x1 r) (fun r14 => (if (r 6) = 0 then (b_X0_reckon_48 r14 (10 - r14) (Int32.toInt64 ((r14 * r14) + ((10 - r14) * (10 - r14)))) r (r 2) un fc fl) else (b_X0_reckon_48 r14 (10 - r14) (1 : Int64) r (r 2) un fc fl))))
set_option maxHeartbeats 4000000 in
set_option maxRecDepth 100000 in
theorem B_X0_reckon_84 {p : Program} {l : Launch} {e : Env} {s : State} {m : MethodId} {args : Array Value} {below : List Frame} {meth : Method} {c : Code} {A : Nat → Prop} {dC : Nat → ClassId} {dI : Nat → Nat → Nat} {cI cJ cZ : ClassId} {aO aR gC gCc gL gLc : Nat} (C0 : q_C p s m args meth c (dC, dI) (q_T cI cJ cZ) A RX0 wsX0_reckon cX0_reckon 6 none) {Q : State → Prop} {k : (Int32 × (Nat → Int64) × (Nat → Int64)) → Option (Int32 × (Nat → Int64) × (Nat → Int64))} {x2 : Int32} {x3 : Int32} {x4 : Int32} {x5 : Int32} {r : (Nat → Int32)} {to : Int32} {un : Int64} {fc : (Nat → Int64)} {fl : (Nat → Int64)} {R : Int32 × (Nat → Int64) × (Nat → Int64)} (hk : ∀ (v0 : Int32) (v1 : (Nat → Int64)) (v2 : (Nat → Int64)), k (v0, v1, v2) = some R → ∀ (H : Heap) (locs : List Loc) (ls : Array Slot), va_P (dC, dI) vwCl [(aO, .inr (0, [.ref aR, .ref gC, .ref gL, .int to, .long un])), (aR, .inr (5, [.int (r 0), .int (r 1), .int (r 2), .int (r 3), .int (r 4), .int (r 5), .int (r 6)])), (gC, .inr (1, [.int 7, .ref gCc])), (gCc, .inl (cJ, 49, .inr (.inl v1))), (gL, .inr (1, [.int 7, .ref gLc])), (gLc, .inl (cJ, 49, .inr (.inl v2)))] H → va_D A [(aO, .inr (0, [.ref aR, .ref gC, .ref gL, .int to, .long un])), (aR, .inr (5, [.int (r 0), .int (r 1), .int (r 2), .int (r 3), .int (r 4), .int (r 5), .int (r 6)])), (gC, .inr (1, [.int 7, .ref gCc])), (gCc, .inl (cJ, 49, .inr (.inl v1))), (gL, .inr (1, [.int 7, .ref gLc])), (gLc, .inl (cJ, 49, .inr (.inl v2)))] → va_S A s.heap H locs → lv_has ls 6 [(0, .ref aO), (2, .int x2), (3, .int x3), (4, .int x4), (5, .int v0)] → W p l e rmX0_reckon s m args below meth c H locs 0 0 Q (F0 m 84 ls [])) (hq : ∀ (H : Heap) (locs : List Loc) (ls : Array Slot), va_P (dC, dI) vwCl [(aO, .inr (0, [.ref aR, .ref gC, .ref gL, .int to, .long un])), (aR, .inr (5, [.int (r 0), .int (r 1), .int (r 2), .int (r 3), .int (r 4), .int (r 5), .int (r 6)])), (gC, .inr (1, [.int 7, .ref gCc])), (gCc, .inl (cJ, 49, .inr (.inl R.2.1))), (gL, .inr (1, [.int 7, .ref gLc])), (gLc, .inl (cJ, 49, .inr (.inl R.2.2)))] H → va_D A [(aO, .inr (0, [.ref aR, .ref gC, .ref gL, .int to, .long un])), (aR, .inr (5, [.int (r 0), .int (r 1), .int (r 2), .int (r 3), .int (r 4), .int (r 5), .int (r 6)])), (gC, .inr (1, [.int 7, .ref gCc])), (gCc, .inl (cJ, 49, .inr (.inl R.2.1))), (gL, .inr (1, [.int 7, .ref gLc])), (gLc, .inl (cJ, 49, .inr (.inl R.2.2)))] → va_S A s.heap H locs → lv_has ls 6 [(0, .ref aO), (2, .int x2), (3, .int x3), (4, .int x4)] → W p l e rmX0_reckon s m args below meth c H locs 0 0 Q (F0 m 105 ls [])) (hf : b_X0_reckon_84 k x2 x3 x4 x5 r to un fc fl = some R) : ∀ (H : Heap) (locs : List Loc) (ls : Array Slot), va_P (dC, dI) vwCl [(aO, .inr (0, [.ref aR, .ref gC, .ref gL, .int to, .long un])), (aR, .inr (5, [.int (r 0), .int (r 1), .int (r 2), .int (r 3), .int (r 4), .int (r 5), .int (r 6)])), (gC, .inr (1, [.int 7, .ref gCc])), (gCc, .inl (cJ, 49, .inr (.inl fc))), (gL, .inr (1, [.int 7, .ref gLc])), (gLc, .inl (cJ, 49, .inr (.inl fl)))] H → va_D A [(aO, .inr (0, [.ref aR, .ref gC, .ref gL, .int to, .long un])), (aR, .inr (5, [.int (r 0), .int (r 1), .int (r 2), .int (r 3), .int (r 4), .int (r 5), .int (r 6)])), (gC, .inr (1, [.int 7, .ref gCc])), (gCc, .inl (cJ, 49, .inr (.inl fc))), (gL, .inr (1, [.int 7, .ref gLc])), (gLc, .inl (cJ, 49, .inr (.inl fl)))] → va_S A s.heap H locs → lv_has ls 6 [(0, .ref aO), (2, .int x2), (3, .int x3), (4, .int x4), (5, .int x5)] → W p l e rmX0_reckon s m args below meth c H locs 0 0 Q (F0 m 84 ls []) := by
  obtain ⟨hx, hb, hml, hown, hts, hrt, hlk, hK, hX, hA⟩ := id C0
  intro H locs ls hP hD hS hl
  refine lv_iload hx hb dX0_reckon_84 (lv_at hl 4 rfl) ?_
  refine lv_if_lt (tgt := 105) hx hb dX0_reckon_86 (by decide) (fun hc1 => ?_) (fun hc1 => ?_)
  · have hf := q_if hf hc1
    obtain rfl := Option.some.inj hf
    exact hq H locs ls hP hD hS (lv_sub hl [0, 1, 2, 3] rfl)
  · have hf := q_nif hf hc1
    refine lv_aload_n hx hb dX0_reckon_89 rfl (lv_at hl 0 rfl) ?_
    refine lv_iload hx hb dX0_reckon_90 (lv_at hl 3 rfl) ?_
    refine lv_iload hx hb dX0_reckon_92 (lv_at hl 4 rfl) ?_
    refine lv_iload_n hx hb dX0_reckon_94 rfl (lv_at hl 1 rfl) ?_
    refine lv_iload_n hx hb dX0_reckon_95 rfl (lv_at hl 2 rfl) ?_
    obtain ⟨fc2, fl3, hg4, hf⟩ := q_e2 hf
    refine q_endV (wc := [(aO, .inr (0, [.ref aR, .ref gC, .ref gL, .int to, .long un])), (aR, .inr (5, [.int (r 0), .int (r 1), .int (r 2), .int (r 3), .int (r 4), .int (r 5), .int (r 6)])), (gC, .inr (1, [.int 7, .ref gCc])), (gCc, .inl (cJ, 49, .inr (.inl fc))), (gL, .inr (1, [.int 7, .ref gLc])), (gLc, .inl (cJ, 49, .inr (.inl fl)))]) (wr := []) (w1 := [(aO, .inr (0, [.ref aR, .ref gC, .ref gL, .int to, .long un])), (aR, .inr (5, [.int (r 0), .int (r 1), .int (r 2), .int (r 3), .int (r 4), .int (r 5), .int (r 6)])), (gC, .inr (1, [.int 7, .ref gCc])), (gCc, .inl (cJ, 49, .inr (.inl fc2))), (gL, .inr (1, [.int 7, .ref gLc])), (gLc, .inl (cJ, 49, .inr (.inl fl3)))]) C0 hP hD hS [0, 1, 2, 3, 4, 5] [] rfl rfl (by decide) (by decide) (q_runV (TT := TX0) (N := 5) (ci := 0) (q0 := 0) C0 (c_X0_reckonScore (l := l) hg4) (cwV 4 hts gX0_reckon_X0_reckonScore rfl rfl rfl (by decide +kernel) ⟨Nat.le_of_ble_eq_true rfl, Nat.le_of_ble_eq_true rfl⟩) hP hD hS [0, 1, 2, 3, 4, 5] rfl (by decide) rfl rfl rfl rfl hl.1 (Nat.le_of_ble_eq_true rfl) dX0_reckon_96) (fun H locs hP hD hS => ?_)
    have hP : va_P (dC, dI) vwCl [(aO, .inr (0, [.ref aR, .ref gC, .ref gL, .int to, .long un])), (aR, .inr (5, [.int (r 0), .int (r 1), .int (r 2), .int (r 3), .int (r 4), .int (r 5), .int (r 6)])), (gC, .inr (1, [.int 7, .ref gCc])), (gCc, .inl (cJ, 49, .inr (.inl fc2))), (gL, .inr (1, [.int 7, .ref gLc])), (gLc, .inl (cJ, 49, .inr (.inl fl3)))] H := hP
    have hD : va_D A [(aO, .inr (0, [.ref aR, .ref gC, .ref gL, .int to, .long un])), (aR, .inr (5, [.int (r 0), .int (r 1), .int (r 2), .int (r 3), .int (r 4), .int (r 5), .int (r 6)])), (gC, .inr (1, [.int 7, .ref gCc])), (gCc, .inl (cJ, 49, .inr (.inl fc2))), (gL, .inr (1, [.int 7, .ref gLc])), (gLc, .inl (cJ, 49, .inr (.inl fl3)))] := hD
    refine lv_iinc (v := x5 + (-1)) (lv' := [(5, .int (x5 + (-1))), (0, .ref aO), (2, .int x2), (3, .int x3), (4, .int x4)]) hx hb dX0_reckon_99 hl (k := 4) rfl rfl (by decide) rfl (fun ls hl => ?_)
    refine lv_goto (tgt := 84) hx hb dX0_reckon_102 (by decide) ?_
    exact hk _ _ _ hf H locs ls hP hD hS (lv_sub hl [1, 2, 3, 4, 0] rfl)
set_option maxHeartbeats 4000000 in
set_option maxRecDepth 100000 in
theorem L_X0_reckon_84 {p : Program} {l : Launch} {e : Env} {s : State} {m : MethodId} {args : Array Value} {below : List Frame} {meth : Method} {c : Code} {A : Nat → Prop} {dC : Nat → ClassId} {dI : Nat → Nat → Nat} {cI cJ cZ : ClassId} {aO aR gC gCc gL gLc : Nat} (C0 : q_C p s m args meth c (dC, dI) (q_T cI cJ cZ) A RX0 wsX0_reckon cX0_reckon 6 none) {Q : State → Prop} {x2 : Int32} {x3 : Int32} {x4 : Int32} {r : (Nat → Int32)} {to : Int32} {un : Int64} : ∀ (n : Nat) (v0 : Int32) (v1 : (Nat → Int64)) (v2 : (Nat → Int64)) (R : Int32 × (Nat → Int64) × (Nat → Int64)), l_X0_reckon_84 x2 x3 x4 r to un n (v0, v1, v2) = some R → (∀ (H : Heap) (locs : List Loc) (ls : Array Slot), va_P (dC, dI) vwCl [(aO, .inr (0, [.ref aR, .ref gC, .ref gL, .int to, .long un])), (aR, .inr (5, [.int (r 0), .int (r 1), .int (r 2), .int (r 3), .int (r 4), .int (r 5), .int (r 6)])), (gC, .inr (1, [.int 7, .ref gCc])), (gCc, .inl (cJ, 49, .inr (.inl R.2.1))), (gL, .inr (1, [.int 7, .ref gLc])), (gLc, .inl (cJ, 49, .inr (.inl R.2.2)))] H → va_D A [(aO, .inr (0, [.ref aR, .ref gC, .ref gL, .int to, .long un])), (aR, .inr (5, [.int (r 0), .int (r 1), .int (r 2), .int (r 3), .int (r 4), .int (r 5), .int (r 6)])), (gC, .inr (1, [.int 7, .ref gCc])), (gCc, .inl (cJ, 49, .inr (.inl R.2.1))), (gL, .inr (1, [.int 7, .ref gLc])), (gLc, .inl (cJ, 49, .inr (.inl R.2.2)))] → va_S A s.heap H locs → lv_has ls 6 [(0, .ref aO), (2, .int x2), (3, .int x3), (4, .int x4)] → W p l e rmX0_reckon s m args below meth c H locs 0 0 Q (F0 m 105 ls [])) → ∀ (H : Heap) (locs : List Loc) (ls : Array Slot), va_P (dC, dI) vwCl [(aO, .inr (0, [.ref aR, .ref gC, .ref gL, .int to, .long un])), (aR, .inr (5, [.int (r 0), .int (r 1), .int (r 2), .int (r 3), .int (r 4), .int (r 5), .int (r 6)])), (gC, .inr (1, [.int 7, .ref gCc])), (gCc, .inl (cJ, 49, .inr (.inl v1))), (gL, .inr (1, [.int 7, .ref gLc])), (gLc, .inl (cJ, 49, .inr (.inl v2)))] H → va_D A [(aO, .inr (0, [.ref aR, .ref gC, .ref gL, .int to, .long un])), (aR, .inr (5, [.int (r 0), .int (r 1), .int (r 2), .int (r 3), .int (r 4), .int (r 5), .int (r 6)])), (gC, .inr (1, [.int 7, .ref gCc])), (gCc, .inl (cJ, 49, .inr (.inl v1))), (gL, .inr (1, [.int 7, .ref gLc])), (gLc, .inl (cJ, 49, .inr (.inl v2)))] → va_S A s.heap H locs → lv_has ls 6 [(0, .ref aO), (2, .int x2), (3, .int x3), (4, .int x4), (5, .int v0)] → W p l e rmX0_reckon s m args below meth c H locs 0 0 Q (F0 m 84 ls []) := by
  intro n
  induction n with
  | zero =>
    intro v0 v1 v2 R hf
    have hf : (none : Option (Int32 × (Nat → Int64) × (Nat → Int64))) = some R := hf
    cases hf
  | succ n ih =>
    intro v0 v1 v2 R hf hq
    have hf : b_X0_reckon_84 (l_X0_reckon_84 x2 x3 x4 r to un n) x2 x3 x4 v0 r to un v1 v2 = some R := hf
    exact B_X0_reckon_84 C0 (fun v0 v1 v2 h => ih v0 v1 v2 R h hq) hq hf
set_option maxHeartbeats 4000000 in
set_option maxRecDepth 100000 in
theorem B_X0_reckon_59 {p : Program} {l : Launch} {e : Env} {s : State} {m : MethodId} {args : Array Value} {below : List Frame} {meth : Method} {c : Code} {A : Nat → Prop} {dC : Nat → ClassId} {dI : Nat → Nat → Nat} {cI cJ cZ : ClassId} {aO aR gC gCc gL gLc : Nat} (C0 : q_C p s m args meth c (dC, dI) (q_T cI cJ cZ) A RX0 wsX0_reckon cX0_reckon 6 none) {Q : State → Prop} {k : (Int32 × (Nat → Int64) × (Nat → Int64)) → Option (Int32 × (Nat → Int64) × (Nat → Int64))} {x2 : Int32} {x3 : Int32} {x4 : Int32} {r : (Nat → Int32)} {to : Int32} {un : Int64} {fc : (Nat → Int64)} {fl : (Nat → Int64)} {R : Int32 × (Nat → Int64) × (Nat → Int64)} (hk : ∀ (v0 : Int32) (v1 : (Nat → Int64)) (v2 : (Nat → Int64)), k (v0, v1, v2) = some R → ∀ (H : Heap) (locs : List Loc) (ls : Array Slot), va_P (dC, dI) vwCl [(aO, .inr (0, [.ref aR, .ref gC, .ref gL, .int to, .long un])), (aR, .inr (5, [.int (r 0), .int (r 1), .int (r 2), .int (r 3), .int (r 4), .int (r 5), .int (r 6)])), (gC, .inr (1, [.int 7, .ref gCc])), (gCc, .inl (cJ, 49, .inr (.inl v1))), (gL, .inr (1, [.int 7, .ref gLc])), (gLc, .inl (cJ, 49, .inr (.inl v2)))] H → va_D A [(aO, .inr (0, [.ref aR, .ref gC, .ref gL, .int to, .long un])), (aR, .inr (5, [.int (r 0), .int (r 1), .int (r 2), .int (r 3), .int (r 4), .int (r 5), .int (r 6)])), (gC, .inr (1, [.int 7, .ref gCc])), (gCc, .inl (cJ, 49, .inr (.inl v1))), (gL, .inr (1, [.int 7, .ref gLc])), (gLc, .inl (cJ, 49, .inr (.inl v2)))] → va_S A s.heap H locs → lv_has ls 6 [(0, .ref aO), (2, .int x2), (3, .int x3), (4, .int v0)] → W p l e rmX0_reckon s m args below meth c H locs 0 0 Q (F0 m 59 ls [])) (hq : ∀ (H : Heap) (locs : List Loc) (ls : Array Slot), va_P (dC, dI) vwCl [(aO, .inr (0, [.ref aR, .ref gC, .ref gL, .int to, .long un])), (aR, .inr (5, [.int (r 0), .int (r 1), .int (r 2), .int (r 3), .int (r 4), .int (r 5), .int (r 6)])), (gC, .inr (1, [.int 7, .ref gCc])), (gCc, .inl (cJ, 49, .inr (.inl R.2.1))), (gL, .inr (1, [.int 7, .ref gLc])), (gLc, .inl (cJ, 49, .inr (.inl R.2.2)))] H → va_D A [(aO, .inr (0, [.ref aR, .ref gC, .ref gL, .int to, .long un])), (aR, .inr (5, [.int (r 0), .int (r 1), .int (r 2), .int (r 3), .int (r 4), .int (r 5), .int (r 6)])), (gC, .inr (1, [.int 7, .ref gCc])), (gCc, .inl (cJ, 49, .inr (.inl R.2.1))), (gL, .inr (1, [.int 7, .ref gLc])), (gLc, .inl (cJ, 49, .inr (.inl R.2.2)))] → va_S A s.heap H locs → lv_has ls 6 [] → W p l e rmX0_reckon s m args below meth c H locs 0 0 Q (F0 m 111 ls [])) (hf : b_X0_reckon_59 k x2 x3 x4 r to un fc fl = some R) : ∀ (H : Heap) (locs : List Loc) (ls : Array Slot), va_P (dC, dI) vwCl [(aO, .inr (0, [.ref aR, .ref gC, .ref gL, .int to, .long un])), (aR, .inr (5, [.int (r 0), .int (r 1), .int (r 2), .int (r 3), .int (r 4), .int (r 5), .int (r 6)])), (gC, .inr (1, [.int 7, .ref gCc])), (gCc, .inl (cJ, 49, .inr (.inl fc))), (gL, .inr (1, [.int 7, .ref gLc])), (gLc, .inl (cJ, 49, .inr (.inl fl)))] H → va_D A [(aO, .inr (0, [.ref aR, .ref gC, .ref gL, .int to, .long un])), (aR, .inr (5, [.int (r 0), .int (r 1), .int (r 2), .int (r 3), .int (r 4), .int (r 5), .int (r 6)])), (gC, .inr (1, [.int 7, .ref gCc])), (gCc, .inl (cJ, 49, .inr (.inl fc))), (gL, .inr (1, [.int 7, .ref gLc])), (gLc, .inl (cJ, 49, .inr (.inl fl)))] → va_S A s.heap H locs → lv_has ls 6 [(0, .ref aO), (2, .int x2), (3, .int x3), (4, .int x4)] → W p l e rmX0_reckon s m args below meth c H locs 0 0 Q (F0 m 59 ls []) := by
  obtain ⟨hx, hb, hml, hown, hts, hrt, hlk, hK, hX, hA⟩ := id C0
  intro H locs ls hP hD hS hl
  refine lv_iload hx hb dX0_reckon_59 (lv_at hl 3 rfl) ?_
  refine lv_if_lt (tgt := 111) hx hb dX0_reckon_61 (by decide) (fun hc5 => ?_) (fun hc5 => ?_)
  · have hf := q_if hf hc5
    obtain rfl := Option.some.inj hf
    exact hq H locs ls hP hD hS (lv_sub hl [] rfl)
  · have hf := q_nif hf hc5
    refine lv_aload_n hx hb dX0_reckon_64 rfl (lv_at hl 0 rfl) ?_
    refine q_get (TT := TX0) C0 in_X0_reckon_X0 3 m_X0_reckon_f33 hP 0 rfl rfl (by decide) rfl rfl dX0_reckon_65 ?_
    refine lv_iconst (v := 1) hx hb dX0_reckon_68 (by decide) ?_
    refine lv_iadd hx hb dX0_reckon_69 ?_
    refine lv_iconst (v := 2) hx hb dX0_reckon_70 (by decide) ?_
    refine lv_aload_n hx hb dX0_reckon_71 rfl (lv_at hl 0 rfl) ?_
    refine q_get (TT := TX0) C0 in_X0_reckon_X0 3 m_X0_reckon_f33 hP 0 rfl rfl (by decide) rfl rfl dX0_reckon_72 ?_
    refine lv_imul hx hb dX0_reckon_75 ?_
    refine lv_iload hx hb dX0_reckon_76 (lv_at hl 3 rfl) ?_
    refine lv_isub hx hb dX0_reckon_78 ?_
    refine q_min C0 hl.1 m_X0_reckon_l51 m_X0_reckon_stmin m_X0_reckon_imath m_X0_reckon_cmin (Nat.le_of_ble_eq_true rfl) (Nat.le_of_ble_eq_true rfl) dX0_reckon_79 ?_
    refine lv_istore (lv' := [(5, .int (if ((2 * to) - x4) < (to + 1) then ((2 * to) - x4) else (to + 1))), (0, .ref aO), (2, .int x2), (3, .int x3), (4, .int x4)]) hx hb dX0_reckon_82 hl (by decide) rfl (fun ls hl => ?_)
    obtain ⟨y6, y7, y8, hg9, hf⟩ := q_e3 hf
    refine L_X0_reckon_84 C0 1000 _ _ _ _ _ hg9 ?_ H locs ls hP hD hS (lv_sub hl [1, 2, 3, 4, 0] rfl)
    intro H locs ls hP hD hS hl
    have hP : va_P (dC, dI) vwCl [(aO, .inr (0, [.ref aR, .ref gC, .ref gL, .int to, .long un])), (aR, .inr (5, [.int (r 0), .int (r 1), .int (r 2), .int (r 3), .int (r 4), .int (r 5), .int (r 6)])), (gC, .inr (1, [.int 7, .ref gCc])), (gCc, .inl (cJ, 49, .inr (.inl y7))), (gL, .inr (1, [.int 7, .ref gLc])), (gLc, .inl (cJ, 49, .inr (.inl y8)))] H := hP
    have hD : va_D A [(aO, .inr (0, [.ref aR, .ref gC, .ref gL, .int to, .long un])), (aR, .inr (5, [.int (r 0), .int (r 1), .int (r 2), .int (r 3), .int (r 4), .int (r 5), .int (r 6)])), (gC, .inr (1, [.int 7, .ref gCc])), (gCc, .inl (cJ, 49, .inr (.inl y7))), (gL, .inr (1, [.int 7, .ref gLc])), (gLc, .inl (cJ, 49, .inr (.inl y8)))] := hD
    have hl : lv_has ls 6 [(0, .ref aO), (2, .int x2), (3, .int x3), (4, .int x4)] := hl
    refine lv_iinc (v := x4 + (-1)) (lv' := [(4, .int (x4 + (-1))), (0, .ref aO), (2, .int x2), (3, .int x3)]) hx hb dX0_reckon_105 hl (k := 3) rfl rfl (by decide) rfl (fun ls hl => ?_)
    refine lv_goto (tgt := 59) hx hb dX0_reckon_108 (by decide) ?_
    exact hk _ _ _ hf H locs ls hP hD hS (lv_sub hl [1, 2, 3, 0] rfl)
set_option maxHeartbeats 4000000 in
set_option maxRecDepth 100000 in
theorem L_X0_reckon_59 {p : Program} {l : Launch} {e : Env} {s : State} {m : MethodId} {args : Array Value} {below : List Frame} {meth : Method} {c : Code} {A : Nat → Prop} {dC : Nat → ClassId} {dI : Nat → Nat → Nat} {cI cJ cZ : ClassId} {aO aR gC gCc gL gLc : Nat} (C0 : q_C p s m args meth c (dC, dI) (q_T cI cJ cZ) A RX0 wsX0_reckon cX0_reckon 6 none) {Q : State → Prop} {x2 : Int32} {x3 : Int32} {r : (Nat → Int32)} {to : Int32} {un : Int64} : ∀ (n : Nat) (v0 : Int32) (v1 : (Nat → Int64)) (v2 : (Nat → Int64)) (R : Int32 × (Nat → Int64) × (Nat → Int64)), l_X0_reckon_59 x2 x3 r to un n (v0, v1, v2) = some R → (∀ (H : Heap) (locs : List Loc) (ls : Array Slot), va_P (dC, dI) vwCl [(aO, .inr (0, [.ref aR, .ref gC, .ref gL, .int to, .long un])), (aR, .inr (5, [.int (r 0), .int (r 1), .int (r 2), .int (r 3), .int (r 4), .int (r 5), .int (r 6)])), (gC, .inr (1, [.int 7, .ref gCc])), (gCc, .inl (cJ, 49, .inr (.inl R.2.1))), (gL, .inr (1, [.int 7, .ref gLc])), (gLc, .inl (cJ, 49, .inr (.inl R.2.2)))] H → va_D A [(aO, .inr (0, [.ref aR, .ref gC, .ref gL, .int to, .long un])), (aR, .inr (5, [.int (r 0), .int (r 1), .int (r 2), .int (r 3), .int (r 4), .int (r 5), .int (r 6)])), (gC, .inr (1, [.int 7, .ref gCc])), (gCc, .inl (cJ, 49, .inr (.inl R.2.1))), (gL, .inr (1, [.int 7, .ref gLc])), (gLc, .inl (cJ, 49, .inr (.inl R.2.2)))] → va_S A s.heap H locs → lv_has ls 6 [] → W p l e rmX0_reckon s m args below meth c H locs 0 0 Q (F0 m 111 ls [])) → ∀ (H : Heap) (locs : List Loc) (ls : Array Slot), va_P (dC, dI) vwCl [(aO, .inr (0, [.ref aR, .ref gC, .ref gL, .int to, .long un])), (aR, .inr (5, [.int (r 0), .int (r 1), .int (r 2), .int (r 3), .int (r 4), .int (r 5), .int (r 6)])), (gC, .inr (1, [.int 7, .ref gCc])), (gCc, .inl (cJ, 49, .inr (.inl v1))), (gL, .inr (1, [.int 7, .ref gLc])), (gLc, .inl (cJ, 49, .inr (.inl v2)))] H → va_D A [(aO, .inr (0, [.ref aR, .ref gC, .ref gL, .int to, .long un])), (aR, .inr (5, [.int (r 0), .int (r 1), .int (r 2), .int (r 3), .int (r 4), .int (r 5), .int (r 6)])), (gC, .inr (1, [.int 7, .ref gCc])), (gCc, .inl (cJ, 49, .inr (.inl v1))), (gL, .inr (1, [.int 7, .ref gLc])), (gLc, .inl (cJ, 49, .inr (.inl v2)))] → va_S A s.heap H locs → lv_has ls 6 [(0, .ref aO), (2, .int x2), (3, .int x3), (4, .int v0)] → W p l e rmX0_reckon s m args below meth c H locs 0 0 Q (F0 m 59 ls []) := by
  intro n
  induction n with
  | zero =>
    intro v0 v1 v2 R hf
    have hf : (none : Option (Int32 × (Nat → Int64) × (Nat → Int64))) = some R := hf
    cases hf
  | succ n ih =>
    intro v0 v1 v2 R hf hq
    have hf : b_X0_reckon_59 (l_X0_reckon_59 x2 x3 r to un n) x2 x3 v0 r to un v1 v2 = some R := hf
    exact B_X0_reckon_59 C0 (fun v0 v1 v2 h => ih v0 v1 v2 R h hq) hq hf
set_option maxHeartbeats 4000000 in
set_option maxRecDepth 100000 in
theorem B_X0_reckon_48 {p : Program} {l : Launch} {e : Env} {s : State} {m : MethodId} {args : Array Value} {below : List Frame} {meth : Method} {c : Code} {A : Nat → Prop} {dC : Nat → ClassId} {dI : Nat → Nat → Nat} {cI cJ cZ : ClassId} {aO aR gC gCc gL gLc : Nat} (C0 : q_C p s m args meth c (dC, dI) (q_T cI cJ cZ) A RX0 wsX0_reckon cX0_reckon 6 none) {x2 : Int32} {x3 : Int32} {s0 : Int64} {r : (Nat → Int32)} {to : Int32} {un : Int64} {fc : (Nat → Int64)} {fl : (Nat → Int64)} {R : Int32 × Int64 × (Nat → Int64) × (Nat → Int64)} (hf : b_X0_reckon_48 x2 x3 s0 r to un fc fl = some R) : ∀ (H : Heap) (locs : List Loc) (ls : Array Slot), va_P (dC, dI) vwCl [(aO, .inr (0, [.ref aR, .ref gC, .ref gL, .int to, .long un])), (aR, .inr (5, [.int (r 0), .int (r 1), .int (r 2), .int (r 3), .int (r 4), .int (r 5), .int (r 6)])), (gC, .inr (1, [.int 7, .ref gCc])), (gCc, .inl (cJ, 49, .inr (.inl fc))), (gL, .inr (1, [.int 7, .ref gLc])), (gLc, .inl (cJ, 49, .inr (.inl fl)))] H → va_D A [(aO, .inr (0, [.ref aR, .ref gC, .ref gL, .int to, .long un])), (aR, .inr (5, [.int (r 0), .int (r 1), .int (r 2), .int (r 3), .int (r 4), .int (r 5), .int (r 6)])), (gC, .inr (1, [.int 7, .ref gCc])), (gCc, .inl (cJ, 49, .inr (.inl fc))), (gL, .inr (1, [.int 7, .ref gLc])), (gLc, .inl (cJ, 49, .inr (.inl fl)))] → va_S A s.heap H locs → lv_has ls 6 [(0, .ref aO), (2, .int x2), (3, .int x3)] → W p l e rmX0_reckon s m args below meth c H locs 0 0 (MQ below (qV (dC, dI) (q_T cI cJ cZ) [(aO, .inr (0, [.ref aR, .ref gC, .ref gL, .int R.1, .long R.2.1])), (aR, .inr (5, [.int (r 0), .int (r 1), .int (r 2), .int (r 3), .int (r 4), .int (r 5), .int (r 6)])), (gC, .inr (1, [.int 7, .ref gCc])), (gCc, .inl (cJ, 49, .inr (.inl R.2.2.1))), (gL, .inr (1, [.int 7, .ref gLc])), (gLc, .inl (cJ, 49, .inr (.inl R.2.2.2)))] A) args s 0 0 A) (F0 m 48 ls [.long s0, .ref aO]) := by
  obtain ⟨hx, hb, hml, hown, hts, hrt, hlk, hK, hX, hA⟩ := id C0
  intro H locs ls hP hD hS hl
  refine q_put (ty := .long) (TT := TX0) C0 in_X0_reckon_X0 tyX0 tyX0_ok nmX0 4 m_X0_reckon_f36 hP hD hS 0 rfl rfl (by decide) rfl rfl (by decide +kernel) rfl rfl (Nat.le_of_ble_eq_true rfl) dX0_reckon_48 (fun H locs hP hD hS => ?_)
  have hP : va_P (dC, dI) vwCl [(aO, .inr (0, [.ref aR, .ref gC, .ref gL, .int to, .long s0])), (aR, .inr (5, [.int (r 0), .int (r 1), .int (r 2), .int (r 3), .int (r 4), .int (r 5), .int (r 6)])), (gC, .inr (1, [.int 7, .ref gCc])), (gCc, .inl (cJ, 49, .inr (.inl fc))), (gL, .inr (1, [.int 7, .ref gLc])), (gLc, .inl (cJ, 49, .inr (.inl fl)))] H := hP
  have hD : va_D A [(aO, .inr (0, [.ref aR, .ref gC, .ref gL, .int to, .long s0])), (aR, .inr (5, [.int (r 0), .int (r 1), .int (r 2), .int (r 3), .int (r 4), .int (r 5), .int (r 6)])), (gC, .inr (1, [.int 7, .ref gCc])), (gCc, .inl (cJ, 49, .inr (.inl fc))), (gL, .inr (1, [.int 7, .ref gLc])), (gLc, .inl (cJ, 49, .inr (.inl fl)))] := hD
  refine lv_aload_n hx hb dX0_reckon_51 rfl (lv_at hl 0 rfl) ?_
  refine q_get (TT := TX0) C0 in_X0_reckon_X0 3 m_X0_reckon_f33 hP 0 rfl rfl (by decide) rfl rfl dX0_reckon_52 ?_
  refine lv_iconst (v := 1) hx hb dX0_reckon_55 (by decide) ?_
  refine lv_iadd hx hb dX0_reckon_56 ?_
  refine lv_istore (lv' := [(4, .int (to + 1)), (0, .ref aO), (2, .int x2), (3, .int x3)]) hx hb dX0_reckon_57 hl (by decide) rfl (fun ls hl => ?_)
  obtain ⟨y10, y11, y12, hg13, hf⟩ := q_e3 hf
  refine L_X0_reckon_59 C0 1000 _ _ _ _ _ hg13 ?_ H locs ls hP hD hS (lv_sub hl [1, 2, 3, 0] rfl)
  intro H locs ls hP hD hS hl
  have hP : va_P (dC, dI) vwCl [(aO, .inr (0, [.ref aR, .ref gC, .ref gL, .int to, .long s0])), (aR, .inr (5, [.int (r 0), .int (r 1), .int (r 2), .int (r 3), .int (r 4), .int (r 5), .int (r 6)])), (gC, .inr (1, [.int 7, .ref gCc])), (gCc, .inl (cJ, 49, .inr (.inl y11))), (gL, .inr (1, [.int 7, .ref gLc])), (gLc, .inl (cJ, 49, .inr (.inl y12)))] H := hP
  have hD : va_D A [(aO, .inr (0, [.ref aR, .ref gC, .ref gL, .int to, .long s0])), (aR, .inr (5, [.int (r 0), .int (r 1), .int (r 2), .int (r 3), .int (r 4), .int (r 5), .int (r 6)])), (gC, .inr (1, [.int 7, .ref gCc])), (gCc, .inl (cJ, 49, .inr (.inl y11))), (gL, .inr (1, [.int 7, .ref gLc])), (gLc, .inl (cJ, 49, .inr (.inl y12)))] := hD
  have hl : lv_has ls 6 [] := hl
  obtain rfl := Option.some.inj hf
  exact q_retV C0 hP hD hS dX0_reckon_111
set_option maxHeartbeats 4000000 in
set_option maxRecDepth 100000 in
theorem B_X0_reckon_0 {p : Program} {l : Launch} {e : Env} {s : State} {m : MethodId} {args : Array Value} {below : List Frame} {meth : Method} {c : Code} {A : Nat → Prop} {dC : Nat → ClassId} {dI : Nat → Nat → Nat} {cI cJ cZ : ClassId} {aO aR gC gCc gL gLc : Nat} (C0 : q_C p s m args meth c (dC, dI) (q_T cI cJ cZ) A RX0 wsX0_reckon cX0_reckon 6 none) {x1 : Int32} {r : (Nat → Int32)} {to : Int32} {un : Int64} {fc : (Nat → Int64)} {fl : (Nat → Int64)} {R : Int32 × Int64 × (Nat → Int64) × (Nat → Int64)} (hf : f_X0_reckon x1 r to un fc fl = some R) : ∀ (H : Heap) (locs : List Loc) (ls : Array Slot), va_P (dC, dI) vwCl [(aO, .inr (0, [.ref aR, .ref gC, .ref gL, .int to, .long un])), (aR, .inr (5, [.int (r 0), .int (r 1), .int (r 2), .int (r 3), .int (r 4), .int (r 5), .int (r 6)])), (gC, .inr (1, [.int 7, .ref gCc])), (gCc, .inl (cJ, 49, .inr (.inl fc))), (gL, .inr (1, [.int 7, .ref gLc])), (gLc, .inl (cJ, 49, .inr (.inl fl)))] H → va_D A [(aO, .inr (0, [.ref aR, .ref gC, .ref gL, .int to, .long un])), (aR, .inr (5, [.int (r 0), .int (r 1), .int (r 2), .int (r 3), .int (r 4), .int (r 5), .int (r 6)])), (gC, .inr (1, [.int 7, .ref gCc])), (gCc, .inl (cJ, 49, .inr (.inl fc))), (gL, .inr (1, [.int 7, .ref gLc])), (gLc, .inl (cJ, 49, .inr (.inl fl)))] → va_S A s.heap H locs → lv_has ls 6 [(0, .ref aO), (1, .int x1)] → W p l e rmX0_reckon s m args below meth c H locs 0 0 (MQ below (qV (dC, dI) (q_T cI cJ cZ) [(aO, .inr (0, [.ref aR, .ref gC, .ref gL, .int R.1, .long R.2.1])), (aR, .inr (5, [.int (r 0), .int (r 1), .int (r 2), .int (r 3), .int (r 4), .int (r 5), .int (r 6)])), (gC, .inr (1, [.int 7, .ref gCc])), (gCc, .inl (cJ, 49, .inr (.inl R.2.2.1))), (gL, .inr (1, [.int 7, .ref gLc])), (gLc, .inl (cJ, 49, .inr (.inl R.2.2.2)))] A) args s 0 0 A) (F0 m 0 ls []) := by
  obtain ⟨hx, hb, hml, hown, hts, hrt, hlk, hK, hX, hA⟩ := id C0
  intro H locs ls hP hD hS hl
  refine lv_aload_n hx hb dX0_reckon_0 rfl (lv_at hl 0 rfl) ?_
  refine q_get (TT := TX0) C0 in_X0_reckon_X0 0 m_X0_reckon_f23 hP 0 rfl rfl (by decide) rfl rfl dX0_reckon_1 ?_
  refine lv_iload_n hx hb dX0_reckon_4 rfl (lv_at hl 1 rfl) ?_
  obtain ⟨r14, hg15, hf⟩ := q_e1 hf
  refine q_endI (wc := [(aR, .inr (5, [.int (r 0), .int (r 1), .int (r 2), .int (r 3), .int (r 4), .int (r 5), .int (r 6)]))]) (wr := [(aO, .inr (0, [.ref aR, .ref gC, .ref gL, .int to, .long un])), (gC, .inr (1, [.int 7, .ref gCc])), (gCc, .inl (cJ, 49, .inr (.inl fc))), (gL, .inr (1, [.int 7, .ref gLc])), (gLc, .inl (cJ, 49, .inr (.inl fl)))]) (w1 := [(aR, .inr (5, [.int (r 0), .int (r 1), .int (r 2), .int (r 3), .int (r 4), .int (r 5), .int (r 6)]))]) (rv := r14) C0 hP hD hS [1] [0, 2, 3, 4, 5] rfl rfl (by decide) (by decide) (q_runV (TT := TX5) (N := 7) (ci := 5) (q0 := 0) C0 (c_X5_tenthsOfA (l := l) hg15) (cwV 1 hts gX0_reckon_X5_tenthsOfA rfl rfl rfl (by decide +kernel) ⟨Nat.le_of_ble_eq_true rfl, Nat.le_of_ble_eq_true rfl⟩) hP hD hS [1] rfl (by decide) rfl rfl rfl rfl hl.1 (Nat.le_of_ble_eq_true rfl) dX0_reckon_5) (fun H locs hP hD hS => ?_)
  have hP : va_P (dC, dI) vwCl [(aO, .inr (0, [.ref aR, .ref gC, .ref gL, .int to, .long un])), (gC, .inr (1, [.int 7, .ref gCc])), (gCc, .inl (cJ, 49, .inr (.inl fc))), (gL, .inr (1, [.int 7, .ref gLc])), (gLc, .inl (cJ, 49, .inr (.inl fl))), (aR, .inr (5, [.int (r 0), .int (r 1), .int (r 2), .int (r 3), .int (r 4), .int (r 5), .int (r 6)]))] H := hP
  have hD : va_D A [(aO, .inr (0, [.ref aR, .ref gC, .ref gL, .int to, .long un])), (gC, .inr (1, [.int 7, .ref gCc])), (gCc, .inl (cJ, 49, .inr (.inl fc))), (gL, .inr (1, [.int 7, .ref gLc])), (gLc, .inl (cJ, 49, .inr (.inl fl))), (aR, .inr (5, [.int (r 0), .int (r 1), .int (r 2), .int (r 3), .int (r 4), .int (r 5), .int (r 6)]))] := hD
  refine lv_istore_n (lv' := [(2, .int r14), (0, .ref aO), (1, .int x1)]) hx hb dX0_reckon_8 rfl hl (by decide) rfl (fun ls hl => ?_)
  refine lv_bipush (v := 10) hx hb dX0_reckon_9 (by decide) ?_
  refine lv_iload_n hx hb dX0_reckon_11 rfl (lv_at hl 0 rfl) ?_
  refine lv_isub hx hb dX0_reckon_12 ?_
  refine lv_istore_n (lv' := [(3, .int (10 - r14)), (2, .int r14), (0, .ref aO), (1, .int x1)]) hx hb dX0_reckon_13 rfl hl (by decide) rfl (fun ls hl => ?_)
  refine lv_aload_n hx hb dX0_reckon_14 rfl (lv_at hl 2 rfl) ?_
  refine lv_aload_n hx hb dX0_reckon_15 rfl (lv_at hl 2 rfl) ?_
  refine q_get (TT := TX0) C0 in_X0_reckon_X0 0 m_X0_reckon_f23 hP 0 rfl rfl (by decide) rfl rfl dX0_reckon_16 ?_
  refine q_get (TT := TX5) C0 in_X0_reckon_X5 2 m_X0_reckon_f27 hP 5 rfl rfl (by decide) rfl rfl dX0_reckon_19 ?_
  refine q_put (ty := .int) (TT := TX0) C0 in_X0_reckon_X0 tyX0 tyX0_ok nmX0 3 m_X0_reckon_f33 hP hD hS 0 rfl rfl (by decide) rfl rfl (by decide +kernel) rfl rfl (Nat.le_of_ble_eq_true rfl) dX0_reckon_22 (fun H locs hP hD hS => ?_)
  have hP : va_P (dC, dI) vwCl [(aO, .inr (0, [.ref aR, .ref gC, .ref gL, .int (r 2), .long un])), (gC, .inr (1, [.int 7, .ref gCc])), (gCc, .inl (cJ, 49, .inr (.inl fc))), (gL, .inr (1, [.int 7, .ref gLc])), (gLc, .inl (cJ, 49, .inr (.inl fl))), (aR, .inr (5, [.int (r 0), .int (r 1), .int (r 2), .int (r 3), .int (r 4), .int (r 5), .int (r 6)]))] H := hP
  have hD : va_D A [(aO, .inr (0, [.ref aR, .ref gC, .ref gL, .int (r 2), .long un])), (gC, .inr (1, [.int 7, .ref gCc])), (gCc, .inl (cJ, 49, .inr (.inl fc))), (gL, .inr (1, [.int 7, .ref gLc])), (gLc, .inl (cJ, 49, .inr (.inl fl))), (aR, .inr (5, [.int (r 0), .int (r 1), .int (r 2), .int (r 3), .int (r 4), .int (r 5), .int (r 6)]))] := hD
  refine lv_aload_n hx hb dX0_reckon_25 rfl (lv_at hl 2 rfl) ?_
  refine lv_aload_n hx hb dX0_reckon_26 rfl (lv_at hl 2 rfl) ?_
  refine q_get (TT := TX0) C0 in_X0_reckon_X0 0 m_X0_reckon_f23 hP 0 rfl rfl (by decide) rfl rfl dX0_reckon_27 ?_
  refine q_get (TT := TX5) C0 in_X0_reckon_X5 6 m_X0_reckon_f48 hP 5 rfl rfl (by decide) rfl rfl dX0_reckon_30 ?_
  refine lv_if_ne (tgt := 47) hx hb dX0_reckon_33 (by decide) (fun hc16 => ?_) (fun hc16 => ?_)
  · have hf := q_nif hf hc16
    refine lv_lconst (v := 1) hx hb dX0_reckon_47 (by decide) ?_
    exact B_X0_reckon_48 C0 hf H locs ls (q_sub (wc := [(aO, .inr (0, [.ref aR, .ref gC, .ref gL, .int (r 2), .long un])), (aR, .inr (5, [.int (r 0), .int (r 1), .int (r 2), .int (r 3), .int (r 4), .int (r 5), .int (r 6)])), (gC, .inr (1, [.int 7, .ref gCc])), (gCc, .inl (cJ, 49, .inr (.inl fc))), (gL, .inr (1, [.int 7, .ref gLc])), (gLc, .inl (cJ, 49, .inr (.inl fl)))]) (is := [0, 5, 1, 2, 3, 4]) hP rfl) (hD.sub (ws' := [(aO, .inr (0, [.ref aR, .ref gC, .ref gL, .int (r 2), .long un])), (aR, .inr (5, [.int (r 0), .int (r 1), .int (r 2), .int (r 3), .int (r 4), .int (r 5), .int (r 6)])), (gC, .inr (1, [.int 7, .ref gCc])), (gCc, .inl (cJ, 49, .inr (.inl fc))), (gL, .inr (1, [.int 7, .ref gLc])), (gLc, .inl (cJ, 49, .inr (.inl fl)))]) [0, 5, 1, 2, 3, 4] (by decide) rfl) hS (lv_sub hl [2, 1, 0] rfl)
  · have hf := q_if hf hc16
    refine lv_iload_n hx hb dX0_reckon_36 rfl (lv_at hl 1 rfl) ?_
    refine lv_iload_n hx hb dX0_reckon_37 rfl (lv_at hl 1 rfl) ?_
    refine lv_imul hx hb dX0_reckon_38 ?_
    refine lv_iload_n hx hb dX0_reckon_39 rfl (lv_at hl 0 rfl) ?_
    refine lv_iload_n hx hb dX0_reckon_40 rfl (lv_at hl 0 rfl) ?_
    refine lv_imul hx hb dX0_reckon_41 ?_
    refine lv_iadd hx hb dX0_reckon_42 ?_
    refine lv_i2l (v := Int32.toInt64 ((r14 * r14) + ((10 - r14) * (10 - r14)))) hx hb dX0_reckon_43 rfl ?_
    refine lv_goto (tgt := 48) hx hb dX0_reckon_44 (by decide) ?_
    exact B_X0_reckon_48 C0 hf H locs ls (q_sub (wc := [(aO, .inr (0, [.ref aR, .ref gC, .ref gL, .int (r 2), .long un])), (aR, .inr (5, [.int (r 0), .int (r 1), .int (r 2), .int (r 3), .int (r 4), .int (r 5), .int (r 6)])), (gC, .inr (1, [.int 7, .ref gCc])), (gCc, .inl (cJ, 49, .inr (.inl fc))), (gL, .inr (1, [.int 7, .ref gLc])), (gLc, .inl (cJ, 49, .inr (.inl fl)))]) (is := [0, 5, 1, 2, 3, 4]) hP rfl) (hD.sub (ws' := [(aO, .inr (0, [.ref aR, .ref gC, .ref gL, .int (r 2), .long un])), (aR, .inr (5, [.int (r 0), .int (r 1), .int (r 2), .int (r 3), .int (r 4), .int (r 5), .int (r 6)])), (gC, .inr (1, [.int 7, .ref gCc])), (gCc, .inl (cJ, 49, .inr (.inl fc))), (gL, .inr (1, [.int 7, .ref gLc])), (gLc, .inl (cJ, 49, .inr (.inl fl)))]) [0, 5, 1, 2, 3, 4] (by decide) rfl) hS (lv_sub hl [2, 1, 0] rfl)
set_option maxHeartbeats 4000000 in
set_option maxRecDepth 100000 in
theorem c_X0_reckon {l : Launch} {dC : Nat → ClassId} {dI : Nat → Nat → Nat} {cI cJ cZ : ClassId} {aO aR gC gCc gL gLc : Nat} {x1 : Int32} {r : (Nat → Int32)} {to : Int32} {un : Int64} {fc : (Nat → Int64)} {fl : (Nat → Int64)} {R : Int32 × Int64 × (Nat → Int64) × (Nat → Int64)} (hf : f_X0_reckon x1 r to un fc fl = some R) : q_M l yX0_reckon wsX0_reckon rmX0_reckon (dC, dI) (q_T cI cJ cZ) [.ref aO, .int x1] [(aO, .inr (0, [.ref aR, .ref gC, .ref gL, .int to, .long un])), (aR, .inr (5, [.int (r 0), .int (r 1), .int (r 2), .int (r 3), .int (r 4), .int (r 5), .int (r 6)])), (gC, .inr (1, [.int 7, .ref gCc])), (gCc, .inl (cJ, 49, .inr (.inl fc))), (gL, .inr (1, [.int 7, .ref gLc])), (gLc, .inl (cJ, 49, .inr (.inl fl)))] (qV (dC, dI) (q_T cI cJ cZ) [(aO, .inr (0, [.ref aR, .ref gC, .ref gL, .int R.1, .long R.2.1])), (aR, .inr (5, [.int (r 0), .int (r 1), .int (r 2), .int (r 3), .int (r 4), .int (r 5), .int (r 6)])), (gC, .inr (1, [.int 7, .ref gCc])), (gCc, .inl (cJ, 49, .inr (.inl R.2.2.1))), (gL, .inr (1, [.int 7, .ref gLc])), (gLc, .inl (cJ, 49, .inr (.inl R.2.2.2)))]) := by
  refine q_body (cc := cX0_reckon) (maxL := 6) (ret := none) (by decide) rfl (Nat.le_of_ble_eq_true rfl) ?_
  intro p e s m args below meth c A C0 ls hP hD hS hl
  have hl : lv_has ls 6 [(0, .ref aO), (1, .int x1)] := hl
  exact B_X0_reckon_0 C0 hf s.heap [] ls hP hD hS hl

