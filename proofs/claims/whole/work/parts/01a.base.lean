/-! General rows of mine: the context of a body, contracts of one shape, calls with their frame, returns, fields. -/
def q_ten (j : Nat) : Int64 := match j with
  | 0 => 1
  | 1 => 10
  | 2 => 100
  | 3 => 1000
  | 4 => 10000
  | 5 => 100000
  | 6 => 1000000
  | 7 => 10000000
  | 8 => 100000000
  | 9 => 1000000000
  | _ => 10000000000
/-- what every body may use beside its world: the static row of tens, and the four nest links -/
def q_X (A : Nat → Prop) (U : State) (H : Heap) : Prop :=
  (∃ t : Nat, va_Z RX6 "TENS" "[J" (.ref t) A U H ∧ va_T .long t 11 (fun j => .long (q_ten j)) A U H) ∧
  va_Nw (.fieldLinkNest RX0 91 RX6 "TENS" "[J" RX6) U ∧ va_Nw (.methodLinkNest RX5 33 yX6_within RX6) U ∧
  va_Nw (.methodLinkNest RX6 9 yX5_init RX6) U ∧ va_Nw (.methodLinkNest RX4 17 yX3_init RX6) U
theorem q_X.go {A B : Nat → Prop} {s U : State} {H : Heap} {locs : List Loc} (h : q_X A s s.heap) (hS : va_S A s.heap H locs) (hAB : ∀ q, B q → A q) (hW : s.WarmedH U.vm) : q_X B U H := by
  obtain ⟨⟨t, hZ, hT⟩, h1, h2, h3, h4⟩ := h
  exact ⟨⟨t, va_Z.moved hW.alike ((hZ.kept (fun a h1 h2 => hS.2.1 a h1 h2)).narrow hAB), va_T.moved hW.alike ((hT.kept (fun a h1 h2 => hS.2.1 a h1 h2)).narrow hAB)⟩, va_Nw.warmF hW h1, va_Nw.warmM hW h2, va_Nw.warmM hW h3, va_Nw.warmM hW h4⟩
theorem q_X.call {A : Nat → Prop} {U : State} {g : JFrame} {mk : MethodId} {a : Array Value} (h : q_X A U U.heap) : q_X A (U.calling g mk a) (U.calling g mk a).heap := by
  obtain ⟨⟨t, hZ, hT⟩, h1, h2, h3, h4⟩ := h
  exact ⟨⟨t, va_Z.moved (u := U) (U := U.calling g mk a) (Vm.Alike.refl U.vm) hZ, va_T.moved (u := U) (U := U.calling g mk a) (Vm.Alike.refl U.vm) hT⟩, va_Nw.same (u := U) (U := U.calling g mk a) rfl rfl h1, va_Nw.same (u := U) (U := U.calling g mk a) rfl rfl h2, va_Nw.same (u := U) (U := U.calling g mk a) rfl rfl h3, va_Nw.same (u := U) (U := U.calling g mk a) rfl rfl h4⟩
abbrev q_T (cI cJ cZ : ClassId) : List (ClassId × FieldType) := [(cI, .int), (cJ, .long), (cZ, .boolean)]
def q_Pre (D : va_G) (T : List (ClassId × FieldType)) (w : va_W) (sz : Nat) (U : State) : Prop :=
  U.heap.size = sz ∧ va_P D vwCl w U.heap ∧ va_K D vwCl T U ∧ va_D (fun _ => True) w ∧ q_X (va_A w sz) U U.heap
theorem q_blind {D : va_G} {T : List (ClassId × FieldType)} {w : va_W} {sz : Nat} {av : List Value} : FrameBlind (va_Pc av (q_Pre D T w sz)) := by
  intro a U g mk h
  obtain ⟨h0, h1, h2, h3, h4, h5⟩ := h
  exact ⟨h0, h1, h2, va_K.moved (u := U) (U := U.calling g mk a) (Vm.Alike.refl U.vm) h3, h4, q_X.call h5⟩
def q_B (D : va_G) (T : List (ClassId × FieldType)) (w' : va_W) (A : Nat → Prop) : Unit → State → Prop := fun _ t => va_P D vwCl w' t.heap ∧ va_K D vwCl T t ∧ va_D A w'
abbrev qI (D : va_G) (T : List (ClassId × FieldType)) (w' : va_W) (rv : Int32) (A : Nat → Prop) : Array Value → State → Outcome → State → Prop := va_Qi (fun r (_ : Unit) => r = rv) (q_B D T w' A) A
abbrev qL (D : va_G) (T : List (ClassId × FieldType)) (w' : va_W) (rv : Int64) (A : Nat → Prop) : Array Value → State → Outcome → State → Prop := va_Ql (fun r (_ : Unit) => r = rv) (q_B D T w' A) A
abbrev qV (D : va_G) (T : List (ClassId × FieldType)) (w' : va_W) (A : Nat → Prop) : Array Value → State → Outcome → State → Prop := va_Qv (fun (_ : Unit) => True) (q_B D T w' A) A
/-- a contract: from the world w (arguments av) to what P says -/
def q_M (l : Launch) (y : MethodName) (ws : List Cond) (rm : Room) (D : va_G) (T : List (ClassId × FieldType)) (av : List Value) (w : va_W) (P : (Nat → Prop) → Array Value → State → Outcome → State → Prop) : Prop :=
  ∀ sz : Nat, Met l y ws rm (va_Pc av (q_Pre D T w sz)) (P (va_A w sz)) 0 0 (va_A w sz)
/-- what a body knows -/
def q_C (p : Program) (s : State) (m : MethodId) (args : Array Value) (meth : Method) (c : Code) (D : va_G) (T : List (ClassId × FieldType)) (A : Nat → Prop) (own : String) (Ts : List Cond) (cc : ByteArray) (nL : Nat) (ret : Option FieldType) : Prop :=
  p.tables.exec = Jvm.exec ∧ c.code = cc ∧ c.maxLocals = nL ∧ s.vm.findClass own = some m.cls ∧ (∀ w ∈ Ts, w.before args s = true) ∧ meth.sig.returnType = ret ∧ meth.locks = false ∧ va_K D vwCl T s ∧ q_X A s s.heap ∧ ∀ q : Nat, s.heap.size ≤ q → A q
theorem q_body {l : Launch} {y : MethodName} {ws ws' : List Cond} {rm : Room} {D : va_G} {T : List (ClassId × FieldType)} {av : List Value} {w : va_W} {P : (Nat → Prop) → Array Value → State → Outcome → State → Prop} {cc : ByteArray} {maxL : Nat} {ret : Option FieldType} (hy : plainName y.cls = true) (hw : ws = Cond.code y cc maxL ret :: ws') (hlen : (lg_sl av).length ≤ maxL)
    (body : ∀ (p : Program) (e : Env) (s : State) (m : MethodId) (args : Array Value) (below : List Frame) (meth : Method) (c : Code) (A : Nat → Prop), q_C p s m args meth c D T A y.cls ws cc maxL ret → ∀ (ls : Array Slot), va_P D vwCl w s.heap → va_D A w → va_S A s.heap s.heap [] → lv_has ls maxL (lv_args 0 av) →
      W p l e rm s m args below meth c s.heap [] 0 0 (MQ below (P A) args s 0 0 A) (F0 m 0 ls [])) : q_M l y ws rm D T av w P := by
  intro sz
  refine Met.ofW (cc := cc) (maxL := maxL) (ret := ret) hy hw ?_
  intro p e s m args below meth c s₁ B hml hv
  obtain ⟨rfl, hsz, hP, hK, hD0, hX⟩ := hv
  have hl := lv_entry av (n := maxL) hlen
  rw [lg_entry_eq]
  subst hsz
  exact body p e s m _ below meth c (va_A w s.heap.size) ⟨B.exec, B.bytes, hml, findClass_of_methodNamed B.named, atoms_spec (ws := ws) B.pre, B.returns, B.notSynchronized, hK, hX, fun q h => Or.inr h⟩ _ hP hD0.self va_S.rf hl
theorem q_sub {D : va_G} {cl : List vw_C} {ws wc : va_W} {H : Heap} {is : List Nat} (hP : va_P D cl ws H) (hC : is.map (fun i => ws[i]?) = wc.map some) : va_P D cl wc H := by
  intro k q hq
  have h1 : (is.map (fun i => ws[i]?))[k]? = some (some q) := by rw [hC, List.getElem?_map, hq]; rfl
  rw [List.getElem?_map] at h1
  cases hi : is[k]? with
  | none => rw [hi] at h1; cases h1
  | some i => rw [hi] at h1; exact hP i q (Option.some.inj h1)
section QCC
variable {p : Program} {l : Launch} {e : Env} {R : Room} {s : State} {m : MethodId} {args : Array Value} {below : List Frame} {meth : Method} {c : Code} {H : Heap} {locs : List Loc} {Q : State → Prop}
variable {D : va_G} {T : List (ClassId × FieldType)} {A : Nat → Prop} {own : String} {Ts : List Cond} {cc : ByteArray} {nL : Nat} {ret0 : Option FieldType}
variable {y : MethodName} {ws' : List Cond} {rm : Room} {bytes : ByteArray} {maxL index n pc : Nat} {ret : Option FieldType} {ws wc wr w1 : va_W} {ls : Array Slot} {st rest As : List Value}
theorem q_runV {C : String} {b : Nat} {ci q0 N : Nat} {TT : u_T} {fs : List Value} {P : (Nat → Prop) → Array Value → State → Outcome → State → Prop} (C0 : q_C p s m args meth c D T A own Ts cc nL ret0) (hM : q_M l y ws' rm D T (.ref b :: As) wc P) (cw : CallW R s args own C index y bytes maxL ret ws' rm 0 0 n)
    (hP : va_P D vwCl ws H) (hD : va_D A ws) (hS : va_S A s.heap H locs) (isC : List Nat) (hC : isC.map (fun i => ws[i]?) = wc.map some) (hn : va_nd isC = true)
    (hcl : vwCl[ci]? = some (C, TT, N)) (he : wc[q0]? = some (b, .inr (ci, fs))) (hnA : As.length = n) (hst : st = As.reverse ++ .ref b :: rest) (hl : ls.size = nL) (hWt : (rest.map fun v => v.category).sum ≤ 8) (hdg : decode cc pc = .ok (.invokevirtual index, 3)) :
    va_Run p l e R s m args below meth c H locs 0 0 0 0 (F0 m pc ls st) rest (P (va_A wc H.size) (Value.ref b :: As).toArray) (va_A wc H.size) := by
  obtain ⟨hx, hb, hml, hown, hts, hr, hlk, hK, hX, hA⟩ := C0
  have hPc : va_P D vwCl wc H := q_sub hP hC
  have hDc := hD.sub isC hn hC
  have hFc := va_free hD hS hA isC hC
  exact va_runV (As := As) (rest := rest) ⟨hx, hb, hml, hown, hts⟩ (hM H.size) cw ⟨q_blind, va_recv hK hPc hcl he, fun U hU hW => ⟨rfl, by rw [hU], by rw [hU]; exact hPc, va_K.moved hW.alike hK, hDc.weaken (fun _ _ _ _ => trivial), by rw [hU]; exact hX.go hS hFc hW⟩⟩ rfl hnA hl hst (lv_room (rest := []) (pc := 0) (ls := ls) (m := m) hWt) hdg ⟨Nat.zero_le _, Nat.zero_le _⟩
theorem q_runS {P : (Nat → Prop) → Array Value → State → Outcome → State → Prop} (C0 : q_C p s m args meth c D T A own Ts cc nL ret0) (hM : q_M l y ws' rm D T As wc P) (cw : CallB R s args own index y bytes maxL ret ws' rm 0 0 n ∧ (Cond.static y).before args s = true)
    (hP : va_P D vwCl ws H) (hD : va_D A ws) (hS : va_S A s.heap H locs) (isC : List Nat) (hC : isC.map (fun i => ws[i]?) = wc.map some) (hn : va_nd isC = true)
    (hnA : As.length = n) (hst : st = As.reverse ++ rest) (hl : ls.size = nL) (hWt : (rest.map fun v => v.category).sum ≤ 8) (hdg : decode cc pc = .ok (.invokestatic index, 3)) :
    va_Run p l e R s m args below meth c H locs 0 0 0 0 (F0 m pc ls st) rest (P (va_A wc H.size) As.toArray) (va_A wc H.size) := by
  obtain ⟨hx, hb, hml, hown, hts, hr, hlk, hK, hX, hA⟩ := C0
  have hPc : va_P D vwCl wc H := q_sub hP hC
  have hDc := hD.sub isC hn hC
  have hFc := va_free hD hS hA isC hC
  exact va_runS (As := As) (rest := rest) ⟨hx, hb, hml, hown, hts⟩ (hM H.size) cw ⟨q_blind, fun U hU hW => ⟨rfl, by rw [hU], by rw [hU]; exact hPc, va_K.moved hW.alike hK, hDc.weaken (fun _ _ _ _ => trivial), by rw [hU]; exact hX.go hS hFc hW⟩⟩ rfl hnA hl hst (lv_room (rest := []) (pc := 0) (ls := ls) (m := m) hWt) hdg ⟨Nat.zero_le _, Nat.zero_le _⟩
theorem q_runSN {host : String} {P : (Nat → Prop) → Array Value → State → Outcome → State → Prop} (C0 : q_C p s m args meth c D T A own Ts cc nL ret0) (hM : q_M l y ws' rm D T As wc P) (cw : va_CN R s args own index y host bytes maxL ret ws' rm 0 0 n ∧ (Cond.static y).before args s = true ∧ True)
    (hP : va_P D vwCl ws H) (hD : va_D A ws) (hS : va_S A s.heap H locs) (isC : List Nat) (hC : isC.map (fun i => ws[i]?) = wc.map some) (hn : va_nd isC = true)
    (hnA : As.length = n) (hst : st = As.reverse ++ rest) (hl : ls.size = nL) (hWt : (rest.map fun v => v.category).sum ≤ 8) (hdg : decode cc pc = .ok (.invokestatic index, 3)) :
    va_Run p l e R s m args below meth c H locs 0 0 0 0 (F0 m pc ls st) rest (P (va_A wc H.size) As.toArray) (va_A wc H.size) := by
  obtain ⟨hx, hb, hml, hown, hts, hr, hlk, hK, hX, hA⟩ := C0
  have hPc : va_P D vwCl wc H := q_sub hP hC
  have hDc := hD.sub isC hn hC
  have hFc := va_free hD hS hA isC hC
  exact va_runSN (As := As) (rest := rest) ⟨hx, hb, hml, hown, hts⟩ (hM H.size) cw ⟨q_blind, fun U hU hW => ⟨rfl, by rw [hU], by rw [hU]; exact hPc, va_K.moved hW.alike hK, hDc.weaken (fun _ _ _ _ => trivial), by rw [hU]; exact hX.go hS hFc hW⟩⟩ rfl hnA hl hst (lv_room (rest := []) (pc := 0) (ls := ls) (m := m) hWt) hdg ⟨Nat.zero_le _, Nat.zero_le _⟩
/-- behind a call: the answer, and the world joined -/
theorem q_endI {rv : Int32} {a : Array Value} (C0 : q_C p s m args meth c D T A own Ts cc nL ret0) (hP : va_P D vwCl ws H) (hD : va_D A ws) (hS : va_S A s.heap H locs) (isC isR : List Nat) (hC : isC.map (fun i => ws[i]?) = wc.map some) (hR : isR.map (fun i => ws[i]?) = wr.map some) (hnR : va_nd isR = true) (hdis : ∀ i ∈ isR, i ∉ isC)
    (hr : va_Run p l e R s m args below meth c H locs 0 0 0 0 (F0 m pc ls st) rest (qI D T w1 rv (va_A wc H.size) a) (va_A wc H.size))
    (kk : ∀ (H1 : Heap) (locs1 : List Loc), va_P D vwCl (wr ++ w1) H1 → va_D A (wr ++ w1) → va_S A s.heap H1 locs1 → W p l e R s m args below meth c H1 locs1 0 0 Q (F0 m (pc + 3) ls (.int rv :: rest))) : W p l e R s m args below meth c H locs 0 0 Q (F0 m pc ls st) := by
  obtain ⟨hx, hb, hml, hown, hts, hrt, hlk, hK, hX, hA⟩ := C0
  have hFc := va_free hD hS hA isC hC
  refine va_calli hr hS (fun q _ h => hFc q h) hFc (fun r u t H1 locs1 ht hvm hw hB hz1 hk1 hS1 => ?_)
  obtain ⟨hP1, hK1, hD1⟩ := hB
  rw [ht] at hP1
  have hw : rv = r := Eq.symm hw
  subst hw
  obtain ⟨hP2, hD2⟩ := va_join hP hD isC isR hC hR hnR hdis hk1 hFc hP1 hD1
  exact kk H1 locs1 hP2 hD2 hS1
theorem q_endL {rv : Int64} {a : Array Value} (C0 : q_C p s m args meth c D T A own Ts cc nL ret0) (hP : va_P D vwCl ws H) (hD : va_D A ws) (hS : va_S A s.heap H locs) (isC isR : List Nat) (hC : isC.map (fun i => ws[i]?) = wc.map some) (hR : isR.map (fun i => ws[i]?) = wr.map some) (hnR : va_nd isR = true) (hdis : ∀ i ∈ isR, i ∉ isC)
    (hr : va_Run p l e R s m args below meth c H locs 0 0 0 0 (F0 m pc ls st) rest (qL D T w1 rv (va_A wc H.size) a) (va_A wc H.size))
    (kk : ∀ (H1 : Heap) (locs1 : List Loc), va_P D vwCl (wr ++ w1) H1 → va_D A (wr ++ w1) → va_S A s.heap H1 locs1 → W p l e R s m args below meth c H1 locs1 0 0 Q (F0 m (pc + 3) ls (.long rv :: rest))) : W p l e R s m args below meth c H locs 0 0 Q (F0 m pc ls st) := by
  obtain ⟨hx, hb, hml, hown, hts, hrt, hlk, hK, hX, hA⟩ := C0
  have hFc := va_free hD hS hA isC hC
  refine va_calll hr hS (fun q _ h => hFc q h) hFc (fun r u t H1 locs1 ht hvm hw hB hz1 hk1 hS1 => ?_)
  obtain ⟨hP1, hK1, hD1⟩ := hB
  rw [ht] at hP1
  have hw : rv = r := Eq.symm hw
  subst hw
  obtain ⟨hP2, hD2⟩ := va_join hP hD isC isR hC hR hnR hdis hk1 hFc hP1 hD1
  exact kk H1 locs1 hP2 hD2 hS1
theorem q_endV {a : Array Value} (C0 : q_C p s m args meth c D T A own Ts cc nL ret0) (hP : va_P D vwCl ws H) (hD : va_D A ws) (hS : va_S A s.heap H locs) (isC isR : List Nat) (hC : isC.map (fun i => ws[i]?) = wc.map some) (hR : isR.map (fun i => ws[i]?) = wr.map some) (hnR : va_nd isR = true) (hdis : ∀ i ∈ isR, i ∉ isC)
    (hr : va_Run p l e R s m args below meth c H locs 0 0 0 0 (F0 m pc ls st) rest (qV D T w1 (va_A wc H.size) a) (va_A wc H.size))
    (kk : ∀ (H1 : Heap) (locs1 : List Loc), va_P D vwCl (wr ++ w1) H1 → va_D A (wr ++ w1) → va_S A s.heap H1 locs1 → W p l e R s m args below meth c H1 locs1 0 0 Q (F0 m (pc + 3) ls rest)) : W p l e R s m args below meth c H locs 0 0 Q (F0 m pc ls st) := by
  obtain ⟨hx, hb, hml, hown, hts, hrt, hlk, hK, hX, hA⟩ := C0
  have hFc := va_free hD hS hA isC hC
  refine va_callv hr hS (fun q _ h => hFc q h) hFc (fun u t H1 locs1 ht hvm hw hB hz1 hk1 hS1 => ?_)
  obtain ⟨hP1, hK1, hD1⟩ := hB
  rw [ht] at hP1
  obtain ⟨hP2, hD2⟩ := va_join hP hD isC isR hC hR hnR hdis hk1 hFc hP1 hD1
  exact kk H1 locs1 hP2 hD2 hS1
/-- a return -/
theorem q_retI {rv : Int32} (C0 : q_C p s m args meth c D T A own Ts cc nL (some .int)) (hP : va_P D vwCl w1 H) (hD : va_D A w1) (hS : va_S A s.heap H locs) (hdg : decode cc pc = .ok (.ireturn, 1)) : W p l e R s m args below meth c H locs 0 0 (MQ below (qI D T w1 rv A) args s 0 0 A) (F0 m pc ls [.int rv]) := by
  obtain ⟨hx, hb, hml, hown, hts, hrt, hlk, hK, hX, hA⟩ := C0
  exact W.iret hx hb hrt (fun t ht hW => ⟨⟨rv, (), rfl, rfl, by rw [ht]; exact hP, va_K.moved hW.alike hK, hD⟩, hS.F ht⟩) hS.2.2 hdg hlk
theorem q_retZ {rv : Int32} (C0 : q_C p s m args meth c D T A own Ts cc nL (some .boolean)) (hv : narrow .boolean (.int rv) = .int rv) (hP : va_P D vwCl w1 H) (hD : va_D A w1) (hS : va_S A s.heap H locs) (hdg : decode cc pc = .ok (.ireturn, 1)) : W p l e R s m args below meth c H locs 0 0 (MQ below (qI D T w1 rv A) args s 0 0 A) (F0 m pc ls [.int rv]) := by
  obtain ⟨hx, hb, hml, hown, hts, hrt, hlk, hK, hX, hA⟩ := C0
  exact W.zret hx hb hrt hv (fun t ht hW => ⟨⟨rv, (), rfl, rfl, by rw [ht]; exact hP, va_K.moved hW.alike hK, hD⟩, hS.F ht⟩) hS.2.2 hdg hlk
theorem q_retL {rv : Int64} (C0 : q_C p s m args meth c D T A own Ts cc nL (some .long)) (hP : va_P D vwCl w1 H) (hD : va_D A w1) (hS : va_S A s.heap H locs) (hdg : decode cc pc = .ok (.lreturn, 1)) : W p l e R s m args below meth c H locs 0 0 (MQ below (qL D T w1 rv A) args s 0 0 A) (F0 m pc ls [.long rv]) := by
  obtain ⟨hx, hb, hml, hown, hts, hrt, hlk, hK, hX, hA⟩ := C0
  exact W.lret hx hb hrt (fun t ht hW => ⟨⟨rv, (), rfl, rfl, by rw [ht]; exact hP, va_K.moved hW.alike hK, hD⟩, hS.F ht⟩) hS.2.2 hdg hlk
theorem q_retV (C0 : q_C p s m args meth c D T A own Ts cc nL none) (hP : va_P D vwCl w1 H) (hD : va_D A w1) (hS : va_S A s.heap H locs) (hdg : decode cc pc = .ok (.return_, 1)) : W p l e R s m args below meth c H locs 0 0 (MQ below (qV D T w1 A) args s 0 0 A) (F0 m pc ls []) := by
  obtain ⟨hx, hb, hml, hown, hts, hrt, hlk, hK, hX, hA⟩ := C0
  exact W.vret hx hb hrt (fun t ht hW => ⟨⟨(), rfl, trivial, by rw [ht]; exact hP, va_K.moved hW.alike hK, hD⟩, hS.F ht⟩) hS.2.2 hdg hlk
/-- fields -/
theorem q_get {C : String} {TT : u_T} {N ci a : Nat} {fs : List Value} {v : Value} (C0 : q_C p s m args meth c D T A own Ts cc nL ret0) (hin : ∀ w ∈ u_ws C TT N, w ∈ Ts) (k : Nat) (hm : Cond.fieldLink own index C (TT k).2.1 (TT k).2.2.1 ∈ Ts) (hP : va_P D vwCl ws H) (q0 : Nat) (he : ws[q0]? = some (a, .inr (ci, fs))) (hc : vwCl[ci]? = some (C, TT, N)) (hk : k < N) (hd : (TT k).1 = C) (hv : fs[k]? = some v) (hdg : decode cc pc = .ok (.getfield index, 3))
    (kk : W p l e R s m args below meth c H locs 0 0 Q (F0 m (pc + 3) ls (v :: rest))) : W p l e R s m args below meth c H locs 0 0 Q (F0 m pc ls (.ref a :: rest)) := by
  obtain ⟨hx, hb, hml, hown, hts, hrt, hlk, hK, hX, hA⟩ := C0
  exact va_get (ref := C) hx hb hts hin hown hK hP q0 he hc k hk (hts _ hm) (fun x h => by rw [hd] at h; exact h) hv hdg kk
theorem q_put {C : String} {TT : u_T} {N ci a : Nat} {fs : List Value} {v : Value} {ty : FieldType} (C0 : q_C p s m args meth c D T A own Ts cc nL ret0) (hin : ∀ w ∈ u_ws C TT N, w ∈ Ts) (ty0 : Nat → FieldType) (hty : ∀ k, k < N → parseFieldDescriptor (TT k).2.2.1 = some (ty0 k)) (hnm : ∀ a, a < N → ∀ b, b < N → a ≠ b → (TT a).2.1 ≠ (TT b).2.1) (k : Nat) (hm : Cond.fieldLink own index C (TT k).2.1 (TT k).2.2.1 ∈ Ts) (hP : va_P D vwCl ws H) (hD : va_D A ws) (hS : va_S A s.heap H locs) (q0 : Nat) (he : ws[q0]? = some (a, .inr (ci, fs))) (hc : vwCl[ci]? = some (C, TT, N)) (hk : k < N) (hd : (TT k).1 = C) (hfin : (TT k).2.2.2 = false) (hpd : parseFieldDescriptor (TT k).2.2.1 = some ty) (hn : narrow ty v = v) (hfit : fits ty v = true) (hl : k < fs.length) (hdg : decode cc pc = .ok (.putfield index, 3))
    (kk : ∀ (H1 : Heap) (locs1 : List Loc), va_P D vwCl (ws.set q0 (a, .inr (ci, fs.set k v))) H1 → va_D A (ws.set q0 (a, .inr (ci, fs.set k v))) → va_S A s.heap H1 locs1 → W p l e R s m args below meth c H1 locs1 0 0 Q (F0 m (pc + 3) ls rest)) : W p l e R s m args below meth c H locs 0 0 Q (F0 m pc ls (v :: .ref a :: rest)) := by
  obtain ⟨hx, hb, hml, hown, hts, hrt, hlk, hK, hX, hA⟩ := C0
  exact va_put (ref := C) hx hb hts hin ty0 hty hnm hown hK hP hD hS q0 he hc k hk (hts _ hm) (fun x h => by rw [hd] at h; exact h) hfin hpd hn hfit hl hdg kk
/-- rows of numbers -/
theorem q_iald {a : Nat} {cA : ClassId} {n : Nat} {f : Nat → Int32} {i v : Int32} (C0 : q_C p s m args meth c D T A own Ts cc nL ret0) (hP : va_P D vwCl ws H) (q0 t0 : Nat) (ha : ws[q0]? = some (a, .inl (cA, n, .inl f))) (ht : T[t0]? = some (cA, .int)) (hin : vp_in i n) (hv : f i.toNatClampNeg = v) (hdg : decode cc pc = .ok (.iaload, 1))
    (kk : W p l e R s m args below meth c H locs 0 0 Q (F0 m (pc + 1) ls (.int v :: rest))) : W p l e R s m args below meth c H locs 0 0 Q (F0 m pc ls (.int i :: .ref a :: rest)) := by
  obtain ⟨hx, hb, hml, hown, hts, hrt, hlk, hK, hX, hA⟩ := C0
  subst hv
  exact va_iald hx hb hK hP q0 t0 ha ht hin hdg kk
theorem q_zald {a : Nat} {cA : ClassId} {n : Nat} {f : Nat → Int32} {i v : Int32} (C0 : q_C p s m args meth c D T A own Ts cc nL ret0) (hP : va_P D vwCl ws H) (q0 t0 : Nat) (ha : ws[q0]? = some (a, .inl (cA, n, .inl f))) (ht : T[t0]? = some (cA, .boolean)) (hin : vp_in i n) (hv : f i.toNatClampNeg = v) (hdg : decode cc pc = .ok (.baload, 1))
    (kk : W p l e R s m args below meth c H locs 0 0 Q (F0 m (pc + 1) ls (.int v :: rest))) : W p l e R s m args below meth c H locs 0 0 Q (F0 m pc ls (.int i :: .ref a :: rest)) := by
  obtain ⟨hx, hb, hml, hown, hts, hrt, hlk, hK, hX, hA⟩ := C0
  subst hv
  exact va_zald hx hb hK hP q0 t0 ha ht hin hdg kk
theorem q_lald {a : Nat} {cA : ClassId} {n : Nat} {f : Nat → Int64} {i : Int32} {v : Int64} (C0 : q_C p s m args meth c D T A own Ts cc nL ret0) (hP : va_P D vwCl ws H) (q0 t0 : Nat) (ha : ws[q0]? = some (a, .inl (cA, n, .inr (.inl f)))) (ht : T[t0]? = some (cA, .long)) (hin : vp_in i n) (hv : f i.toNatClampNeg = v) (hdg : decode cc pc = .ok (.laload, 1))
    (kk : W p l e R s m args below meth c H locs 0 0 Q (F0 m (pc + 1) ls (.long v :: rest))) : W p l e R s m args below meth c H locs 0 0 Q (F0 m pc ls (.int i :: .ref a :: rest)) := by
  obtain ⟨hx, hb, hml, hown, hts, hrt, hlk, hK, hX, hA⟩ := C0
  subst hv
  exact va_lald hx hb hK hP q0 t0 ha ht hin hdg kk
theorem q_iast {a : Nat} {cA : ClassId} {n : Nat} {f g : Nat → Int32} {i x : Int32} (C0 : q_C p s m args meth c D T A own Ts cc nL ret0) (hP : va_P D vwCl ws H) (hD : va_D A ws) (hS : va_S A s.heap H locs) (q0 t0 : Nat) (ha : ws[q0]? = some (a, .inl (cA, n, .inl f))) (ht : T[t0]? = some (cA, .int)) (hin : vp_in i n) (hg : upd f i.toNatClampNeg x = g) (hdg : decode cc pc = .ok (.iastore, 1))
    (kk : ∀ (H1 : Heap) (locs1 : List Loc), va_P D vwCl (ws.set q0 (a, .inl (cA, n, .inl g))) H1 → va_D A (ws.set q0 (a, .inl (cA, n, .inl g))) → va_S A s.heap H1 locs1 → W p l e R s m args below meth c H1 locs1 0 0 Q (F0 m (pc + 1) ls rest)) : W p l e R s m args below meth c H locs 0 0 Q (F0 m pc ls (.int x :: .int i :: .ref a :: rest)) := by
  obtain ⟨hx, hb, hml, hown, hts, hrt, hlk, hK, hX, hA⟩ := C0
  subst hg
  exact va_iast hx hb hK hP hD hS q0 t0 ha ht hin hdg kk
theorem q_zast {a : Nat} {cA : ClassId} {n : Nat} {f g : Nat → Int32} {i x : Int32} (C0 : q_C p s m args meth c D T A own Ts cc nL ret0) (hP : va_P D vwCl ws H) (hD : va_D A ws) (hS : va_S A s.heap H locs) (q0 t0 : Nat) (ha : ws[q0]? = some (a, .inl (cA, n, .inl f))) (ht : T[t0]? = some (cA, .boolean)) (hin : vp_in i n) (hg : upd f i.toNatClampNeg (vp_nar .boolean x) = g) (hdg : decode cc pc = .ok (.bastore, 1))
    (kk : ∀ (H1 : Heap) (locs1 : List Loc), va_P D vwCl (ws.set q0 (a, .inl (cA, n, .inl g))) H1 → va_D A (ws.set q0 (a, .inl (cA, n, .inl g))) → va_S A s.heap H1 locs1 → W p l e R s m args below meth c H1 locs1 0 0 Q (F0 m (pc + 1) ls rest)) : W p l e R s m args below meth c H locs 0 0 Q (F0 m pc ls (.int x :: .int i :: .ref a :: rest)) := by
  obtain ⟨hx, hb, hml, hown, hts, hrt, hlk, hK, hX, hA⟩ := C0
  subst hg
  exact va_zast hx hb hK hP hD hS q0 t0 ha ht hin hdg kk
theorem q_last {a : Nat} {cA : ClassId} {n : Nat} {f g : Nat → Int64} {i : Int32} {x : Int64} (C0 : q_C p s m args meth c D T A own Ts cc nL ret0) (hP : va_P D vwCl ws H) (hD : va_D A ws) (hS : va_S A s.heap H locs) (q0 t0 : Nat) (ha : ws[q0]? = some (a, .inl (cA, n, .inr (.inl f)))) (ht : T[t0]? = some (cA, .long)) (hin : vp_in i n) (hg : vp_updL f i.toNatClampNeg x = g) (hdg : decode cc pc = .ok (.lastore, 1))
    (kk : ∀ (H1 : Heap) (locs1 : List Loc), va_P D vwCl (ws.set q0 (a, .inl (cA, n, .inr (.inl g)))) H1 → va_D A (ws.set q0 (a, .inl (cA, n, .inr (.inl g)))) → va_S A s.heap H1 locs1 → W p l e R s m args below meth c H1 locs1 0 0 Q (F0 m (pc + 1) ls rest)) : W p l e R s m args below meth c H locs 0 0 Q (F0 m pc ls (.long x :: .int i :: .ref a :: rest)) := by
  obtain ⟨hx, hb, hml, hown, hts, hrt, hlk, hK, hX, hA⟩ := C0
  subst hg
  exact va_last hx hb hK hP hD hS q0 t0 ha ht hin hdg kk
theorem q_max {x y : Int32} (C0 : q_C p s m args meth c D T A own Ts cc nL ret0) (hl : ls.size = nL) (h1 : Cond.methodLink own index Lib.Math.max.name ∈ Ts) (h2 : Cond.static Lib.Math.max.name ∈ Ts) (h3 : Cond.initialized "java/lang/Math" ∈ Ts) (h4 : Cond.code Lib.Math.max.name Lib.Math.max.code 2 (some .int) ∈ Ts) (hf : 1 ≤ R.frames) (ho : (rest.map fun v => v.category).sum + 13 ≤ R.locals) (hdg : decode cc pc = .ok (.invokestatic index, 3))
    (kk : W p l e R s m args below meth c H locs 0 0 Q (F0 m (pc + 3) ls (.int (if x < y then y else x) :: rest))) : W p l e R s m args below meth c H locs 0 0 Q (F0 m pc ls (.int y :: .int x :: rest)) := by
  obtain ⟨hx, hb, hml, hown, hts, hrt, hlk, hK, hX, hA⟩ := C0
  exact va_mmax hx hb (hml.trans hl.symm) hown (hts _ h1) (hts _ h2) (hts _ h3) (hts _ h4) hf ho (Nat.zero_le _) (Nat.zero_le _) hdg kk
theorem q_min {x y : Int32} (C0 : q_C p s m args meth c D T A own Ts cc nL ret0) (hl : ls.size = nL) (h1 : Cond.methodLink own index Lib.Math.min.name ∈ Ts) (h2 : Cond.static Lib.Math.min.name ∈ Ts) (h3 : Cond.initialized "java/lang/Math" ∈ Ts) (h4 : Cond.code Lib.Math.min.name Lib.Math.min.code 2 (some .int) ∈ Ts) (hf : 1 ≤ R.frames) (ho : (rest.map fun v => v.category).sum + 13 ≤ R.locals) (hdg : decode cc pc = .ok (.invokestatic index, 3))
    (kk : W p l e R s m args below meth c H locs 0 0 Q (F0 m (pc + 3) ls (.int (if y < x then y else x) :: rest))) : W p l e R s m args below meth c H locs 0 0 Q (F0 m pc ls (.int y :: .int x :: rest)) := by
  obtain ⟨hx, hb, hml, hown, hts, hrt, hlk, hK, hX, hA⟩ := C0
  exact va_mmin hx hb (hml.trans hl.symm) hown (hts _ h1) (hts _ h2) (hts _ h3) (hts _ h4) hf ho (Nat.zero_le _) (Nat.zero_le _) hdg kk
theorem q_abs {x : Int32} (C0 : q_C p s m args meth c D T A own Ts cc nL ret0) (hl : ls.size = nL) (h1 : Cond.methodLink own index Lib.Math.abs.name ∈ Ts) (h2 : Cond.static Lib.Math.abs.name ∈ Ts) (h3 : Cond.initialized "java/lang/Math" ∈ Ts) (h4 : Cond.code Lib.Math.abs.name Lib.Math.abs.code 1 (some .int) ∈ Ts) (hf : 1 ≤ R.frames) (ho : (rest.map fun v => v.category).sum + 13 ≤ R.locals) (hdg : decode cc pc = .ok (.invokestatic index, 3))
    (kk : W p l e R s m args below meth c H locs 0 0 Q (F0 m (pc + 3) ls (.int (if 0 ≤ x then x else 0 - x) :: rest))) : W p l e R s m args below meth c H locs 0 0 Q (F0 m pc ls (.int x :: rest)) := by
  obtain ⟨hx, hb, hml, hown, hts, hrt, hlk, hK, hX, hA⟩ := C0
  exact va_mabs hx hb (hml.trans hl.symm) hown (hts _ h1) (hts _ h2) (hts _ h3) (hts _ h4) hf ho (Nat.zero_le _) (Nat.zero_le _) hdg kk
end QCC
/-! pure plumbing: what is left of a computation -/
theorem q_if {c : Prop} [Decidable c] {α : Type} {x y : α} {r : α} (h : (if c then x else y) = r) (hc : c) : x = r := by rw [if_pos hc] at h; exact h
theorem q_nif {c : Prop} [Decidable c] {α : Type} {x y : α} {r : α} (h : (if c then x else y) = r) (hc : ¬ c) : y = r := by rw [if_neg hc] at h; exact h
theorem q_gd {c : Prop} [Decidable c] {α : Type} {x : Option α} {r : α} (h : (if c then none else x) = some r) : ¬ c ∧ x = some r := by
  by_cases hc : c
  · rw [if_pos hc] at h; cases h
  · rw [if_neg hc] at h; exact ⟨hc, h⟩
theorem q_bd {α β : Type} {x : Option α} {g : α → Option β} {r : β} (h : x.bind g = some r) : ∃ a, x = some a ∧ g a = some r := by
  cases x with
  | none => cases h
  | some a => exact ⟨a, rfl, h⟩
abbrev q_b1 {A1 ρ : Type} (x : Option (A1)) (g : A1 → Option ρ) : Option ρ := x.bind (fun q => g q)
theorem q_e1 {A1 ρ : Type} {x : Option (A1)} {g : A1 → Option ρ} {r : ρ} (h : q_b1 x g = some r) : ∃ (a1 : A1), x = some a1 ∧ g a1 = some r := by
  obtain ⟨a1, h1, h2⟩ := q_bd h
  exact ⟨a1, h1, h2⟩
abbrev q_b2 {A1 A2 ρ : Type} (x : Option (A1 × A2)) (g : A1 → A2 → Option ρ) : Option ρ := x.bind (fun q => g q.1 q.2)
theorem q_e2 {A1 A2 ρ : Type} {x : Option (A1 × A2)} {g : A1 → A2 → Option ρ} {r : ρ} (h : q_b2 x g = some r) : ∃ (a1 : A1) (a2 : A2), x = some (a1, a2) ∧ g a1 a2 = some r := by
  obtain ⟨⟨a1, a2⟩, h1, h2⟩ := q_bd h
  exact ⟨a1, a2, h1, h2⟩
abbrev q_b3 {A1 A2 A3 ρ : Type} (x : Option (A1 × A2 × A3)) (g : A1 → A2 → A3 → Option ρ) : Option ρ := x.bind (fun q => g q.1 q.2.1 q.2.2)
theorem q_e3 {A1 A2 A3 ρ : Type} {x : Option (A1 × A2 × A3)} {g : A1 → A2 → A3 → Option ρ} {r : ρ} (h : q_b3 x g = some r) : ∃ (a1 : A1) (a2 : A2) (a3 : A3), x = some (a1, a2, a3) ∧ g a1 a2 a3 = some r := by
  obtain ⟨⟨a1, a2, a3⟩, h1, h2⟩ := q_bd h
  exact ⟨a1, a2, a3, h1, h2⟩
abbrev q_b4 {A1 A2 A3 A4 ρ : Type} (x : Option (A1 × A2 × A3 × A4)) (g : A1 → A2 → A3 → A4 → Option ρ) : Option ρ := x.bind (fun q => g q.1 q.2.1 q.2.2.1 q.2.2.2)
theorem q_e4 {A1 A2 A3 A4 ρ : Type} {x : Option (A1 × A2 × A3 × A4)} {g : A1 → A2 → A3 → A4 → Option ρ} {r : ρ} (h : q_b4 x g = some r) : ∃ (a1 : A1) (a2 : A2) (a3 : A3) (a4 : A4), x = some (a1, a2, a3, a4) ∧ g a1 a2 a3 a4 = some r := by
  obtain ⟨⟨a1, a2, a3, a4⟩, h1, h2⟩ := q_bd h
  exact ⟨a1, a2, a3, a4, h1, h2⟩
abbrev q_b5 {A1 A2 A3 A4 A5 ρ : Type} (x : Option (A1 × A2 × A3 × A4 × A5)) (g : A1 → A2 → A3 → A4 → A5 → Option ρ) : Option ρ := x.bind (fun q => g q.1 q.2.1 q.2.2.1 q.2.2.2.1 q.2.2.2.2)
theorem q_e5 {A1 A2 A3 A4 A5 ρ : Type} {x : Option (A1 × A2 × A3 × A4 × A5)} {g : A1 → A2 → A3 → A4 → A5 → Option ρ} {r : ρ} (h : q_b5 x g = some r) : ∃ (a1 : A1) (a2 : A2) (a3 : A3) (a4 : A4) (a5 : A5), x = some (a1, a2, a3, a4, a5) ∧ g a1 a2 a3 a4 a5 = some r := by
  obtain ⟨⟨a1, a2, a3, a4, a5⟩, h1, h2⟩ := q_bd h
  exact ⟨a1, a2, a3, a4, a5, h1, h2⟩
abbrev q_b6 {A1 A2 A3 A4 A5 A6 ρ : Type} (x : Option (A1 × A2 × A3 × A4 × A5 × A6)) (g : A1 → A2 → A3 → A4 → A5 → A6 → Option ρ) : Option ρ := x.bind (fun q => g q.1 q.2.1 q.2.2.1 q.2.2.2.1 q.2.2.2.2.1 q.2.2.2.2.2)
theorem q_e6 {A1 A2 A3 A4 A5 A6 ρ : Type} {x : Option (A1 × A2 × A3 × A4 × A5 × A6)} {g : A1 → A2 → A3 → A4 → A5 → A6 → Option ρ} {r : ρ} (h : q_b6 x g = some r) : ∃ (a1 : A1) (a2 : A2) (a3 : A3) (a4 : A4) (a5 : A5) (a6 : A6), x = some (a1, a2, a3, a4, a5, a6) ∧ g a1 a2 a3 a4 a5 a6 = some r := by
  obtain ⟨⟨a1, a2, a3, a4, a5, a6⟩, h1, h2⟩ := q_bd h
  exact ⟨a1, a2, a3, a4, a5, a6, h1, h2⟩
abbrev q_b7 {A1 A2 A3 A4 A5 A6 A7 ρ : Type} (x : Option (A1 × A2 × A3 × A4 × A5 × A6 × A7)) (g : A1 → A2 → A3 → A4 → A5 → A6 → A7 → Option ρ) : Option ρ := x.bind (fun q => g q.1 q.2.1 q.2.2.1 q.2.2.2.1 q.2.2.2.2.1 q.2.2.2.2.2.1 q.2.2.2.2.2.2)
theorem q_e7 {A1 A2 A3 A4 A5 A6 A7 ρ : Type} {x : Option (A1 × A2 × A3 × A4 × A5 × A6 × A7)} {g : A1 → A2 → A3 → A4 → A5 → A6 → A7 → Option ρ} {r : ρ} (h : q_b7 x g = some r) : ∃ (a1 : A1) (a2 : A2) (a3 : A3) (a4 : A4) (a5 : A5) (a6 : A6) (a7 : A7), x = some (a1, a2, a3, a4, a5, a6, a7) ∧ g a1 a2 a3 a4 a5 a6 a7 = some r := by
  obtain ⟨⟨a1, a2, a3, a4, a5, a6, a7⟩, h1, h2⟩ := q_bd h
  exact ⟨a1, a2, a3, a4, a5, a6, a7, h1, h2⟩
abbrev q_b8 {A1 A2 A3 A4 A5 A6 A7 A8 ρ : Type} (x : Option (A1 × A2 × A3 × A4 × A5 × A6 × A7 × A8)) (g : A1 → A2 → A3 → A4 → A5 → A6 → A7 → A8 → Option ρ) : Option ρ := x.bind (fun q => g q.1 q.2.1 q.2.2.1 q.2.2.2.1 q.2.2.2.2.1 q.2.2.2.2.2.1 q.2.2.2.2.2.2.1 q.2.2.2.2.2.2.2)
theorem q_e8 {A1 A2 A3 A4 A5 A6 A7 A8 ρ : Type} {x : Option (A1 × A2 × A3 × A4 × A5 × A6 × A7 × A8)} {g : A1 → A2 → A3 → A4 → A5 → A6 → A7 → A8 → Option ρ} {r : ρ} (h : q_b8 x g = some r) : ∃ (a1 : A1) (a2 : A2) (a3 : A3) (a4 : A4) (a5 : A5) (a6 : A6) (a7 : A7) (a8 : A8), x = some (a1, a2, a3, a4, a5, a6, a7, a8) ∧ g a1 a2 a3 a4 a5 a6 a7 a8 = some r := by
  obtain ⟨⟨a1, a2, a3, a4, a5, a6, a7, a8⟩, h1, h2⟩ := q_bd h
  exact ⟨a1, a2, a3, a4, a5, a6, a7, a8, h1, h2⟩
abbrev q_b9 {A1 A2 A3 A4 A5 A6 A7 A8 A9 ρ : Type} (x : Option (A1 × A2 × A3 × A4 × A5 × A6 × A7 × A8 × A9)) (g : A1 → A2 → A3 → A4 → A5 → A6 → A7 → A8 → A9 → Option ρ) : Option ρ := x.bind (fun q => g q.1 q.2.1 q.2.2.1 q.2.2.2.1 q.2.2.2.2.1 q.2.2.2.2.2.1 q.2.2.2.2.2.2.1 q.2.2.2.2.2.2.2.1 q.2.2.2.2.2.2.2.2)
theorem q_e9 {A1 A2 A3 A4 A5 A6 A7 A8 A9 ρ : Type} {x : Option (A1 × A2 × A3 × A4 × A5 × A6 × A7 × A8 × A9)} {g : A1 → A2 → A3 → A4 → A5 → A6 → A7 → A8 → A9 → Option ρ} {r : ρ} (h : q_b9 x g = some r) : ∃ (a1 : A1) (a2 : A2) (a3 : A3) (a4 : A4) (a5 : A5) (a6 : A6) (a7 : A7) (a8 : A8) (a9 : A9), x = some (a1, a2, a3, a4, a5, a6, a7, a8, a9) ∧ g a1 a2 a3 a4 a5 a6 a7 a8 a9 = some r := by
  obtain ⟨⟨a1, a2, a3, a4, a5, a6, a7, a8, a9⟩, h1, h2⟩ := q_bd h
  exact ⟨a1, a2, a3, a4, a5, a6, a7, a8, a9, h1, h2⟩
abbrev q_b10 {A1 A2 A3 A4 A5 A6 A7 A8 A9 A10 ρ : Type} (x : Option (A1 × A2 × A3 × A4 × A5 × A6 × A7 × A8 × A9 × A10)) (g : A1 → A2 → A3 → A4 → A5 → A6 → A7 → A8 → A9 → A10 → Option ρ) : Option ρ := x.bind (fun q => g q.1 q.2.1 q.2.2.1 q.2.2.2.1 q.2.2.2.2.1 q.2.2.2.2.2.1 q.2.2.2.2.2.2.1 q.2.2.2.2.2.2.2.1 q.2.2.2.2.2.2.2.2.1 q.2.2.2.2.2.2.2.2.2)
theorem q_e10 {A1 A2 A3 A4 A5 A6 A7 A8 A9 A10 ρ : Type} {x : Option (A1 × A2 × A3 × A4 × A5 × A6 × A7 × A8 × A9 × A10)} {g : A1 → A2 → A3 → A4 → A5 → A6 → A7 → A8 → A9 → A10 → Option ρ} {r : ρ} (h : q_b10 x g = some r) : ∃ (a1 : A1) (a2 : A2) (a3 : A3) (a4 : A4) (a5 : A5) (a6 : A6) (a7 : A7) (a8 : A8) (a9 : A9) (a10 : A10), x = some (a1, a2, a3, a4, a5, a6, a7, a8, a9, a10) ∧ g a1 a2 a3 a4 a5 a6 a7 a8 a9 a10 = some r := by
  obtain ⟨⟨a1, a2, a3, a4, a5, a6, a7, a8, a9, a10⟩, h1, h2⟩ := q_bd h
  exact ⟨a1, a2, a3, a4, a5, a6, a7, a8, a9, a10, h1, h2⟩
abbrev q_b11 {A1 A2 A3 A4 A5 A6 A7 A8 A9 A10 A11 ρ : Type} (x : Option (A1 × A2 × A3 × A4 × A5 × A6 × A7 × A8 × A9 × A10 × A11)) (g : A1 → A2 → A3 → A4 → A5 → A6 → A7 → A8 → A9 → A10 → A11 → Option ρ) : Option ρ := x.bind (fun q => g q.1 q.2.1 q.2.2.1 q.2.2.2.1 q.2.2.2.2.1 q.2.2.2.2.2.1 q.2.2.2.2.2.2.1 q.2.2.2.2.2.2.2.1 q.2.2.2.2.2.2.2.2.1 q.2.2.2.2.2.2.2.2.2.1 q.2.2.2.2.2.2.2.2.2.2)
theorem q_e11 {A1 A2 A3 A4 A5 A6 A7 A8 A9 A10 A11 ρ : Type} {x : Option (A1 × A2 × A3 × A4 × A5 × A6 × A7 × A8 × A9 × A10 × A11)} {g : A1 → A2 → A3 → A4 → A5 → A6 → A7 → A8 → A9 → A10 → A11 → Option ρ} {r : ρ} (h : q_b11 x g = some r) : ∃ (a1 : A1) (a2 : A2) (a3 : A3) (a4 : A4) (a5 : A5) (a6 : A6) (a7 : A7) (a8 : A8) (a9 : A9) (a10 : A10) (a11 : A11), x = some (a1, a2, a3, a4, a5, a6, a7, a8, a9, a10, a11) ∧ g a1 a2 a3 a4 a5 a6 a7 a8 a9 a10 a11 = some r := by
  obtain ⟨⟨a1, a2, a3, a4, a5, a6, a7, a8, a9, a10, a11⟩, h1, h2⟩ := q_bd h
  exact ⟨a1, a2, a3, a4, a5, a6, a7, a8, a9, a10, a11, h1, h2⟩
abbrev q_b12 {A1 A2 A3 A4 A5 A6 A7 A8 A9 A10 A11 A12 ρ : Type} (x : Option (A1 × A2 × A3 × A4 × A5 × A6 × A7 × A8 × A9 × A10 × A11 × A12)) (g : A1 → A2 → A3 → A4 → A5 → A6 → A7 → A8 → A9 → A10 → A11 → A12 → Option ρ) : Option ρ := x.bind (fun q => g q.1 q.2.1 q.2.2.1 q.2.2.2.1 q.2.2.2.2.1 q.2.2.2.2.2.1 q.2.2.2.2.2.2.1 q.2.2.2.2.2.2.2.1 q.2.2.2.2.2.2.2.2.1 q.2.2.2.2.2.2.2.2.2.1 q.2.2.2.2.2.2.2.2.2.2.1 q.2.2.2.2.2.2.2.2.2.2.2)
theorem q_e12 {A1 A2 A3 A4 A5 A6 A7 A8 A9 A10 A11 A12 ρ : Type} {x : Option (A1 × A2 × A3 × A4 × A5 × A6 × A7 × A8 × A9 × A10 × A11 × A12)} {g : A1 → A2 → A3 → A4 → A5 → A6 → A7 → A8 → A9 → A10 → A11 → A12 → Option ρ} {r : ρ} (h : q_b12 x g = some r) : ∃ (a1 : A1) (a2 : A2) (a3 : A3) (a4 : A4) (a5 : A5) (a6 : A6) (a7 : A7) (a8 : A8) (a9 : A9) (a10 : A10) (a11 : A11) (a12 : A12), x = some (a1, a2, a3, a4, a5, a6, a7, a8, a9, a10, a11, a12) ∧ g a1 a2 a3 a4 a5 a6 a7 a8 a9 a10 a11 a12 = some r := by
  obtain ⟨⟨a1, a2, a3, a4, a5, a6, a7, a8, a9, a10, a11, a12⟩, h1, h2⟩ := q_bd h
  exact ⟨a1, a2, a3, a4, a5, a6, a7, a8, a9, a10, a11, a12, h1, h2⟩
/-- records of numbers -/
def mk7 (a0 a1 a2 a3 a4 a5 a6 : Int32) : Nat → Int32 := fun k => match k with
  | 0 => a0
  | 1 => a1
  | 2 => a2
  | 3 => a3
  | 4 => a4
  | 5 => a5
  | _ => a6
def mk13 (a0 a1 a2 a3 a4 a5 a6 a7 a8 a9 a10 a11 a12 : Int32) : Nat → Int32 := fun k => match k with
  | 0 => a0
  | 1 => a1
  | 2 => a2
  | 3 => a3
  | 4 => a4
  | 5 => a5
  | 6 => a6
  | 7 => a7
  | 8 => a8
  | 9 => a9
  | 10 => a10
  | 11 => a11
  | _ => a12
