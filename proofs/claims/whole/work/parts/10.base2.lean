section QCD
variable {p : Program} {l : Launch} {e : Env} {R : Room} {s : State} {m : MethodId} {args : Array Value} {below : List Frame} {meth : Method} {c : Code} {H : Heap} {locs : List Loc} {Q : State → Prop} {cells slots : Nat}
variable {D : va_G} {T : List (ClassId × FieldType)} {A : Nat → Prop} {own : String} {Ts : List Cond} {cc : ByteArray} {nL : Nat} {ret0 : Option FieldType}
variable {y : MethodName} {ws' : List Cond} {rm : Room} {bytes : ByteArray} {maxL index n pc : Nat} {ret : Option FieldType} {ws wc wr w1 : va_W} {ls : Array Slot} {st rest As : List Value}
theorem g_runV {C : String} {b : Nat} {ci q0 N : Nat} {TT : u_T} {fs : List Value} {P : (Nat → Prop) → Array Value → State → Outcome → State → Prop} (C0 : q_C p s m args meth c D T A own Ts cc nL ret0) (hM : q_M l y ws' rm D T (.ref b :: As) wc P) (cw : CallW R s args own C index y bytes maxL ret ws' rm 0 0 n)
    (hP : va_P D vwCl ws H) (hD : va_D A ws) (hS : va_S A s.heap H locs) (isC : List Nat) (hC : isC.map (fun i => ws[i]?) = wc.map some) (hn : va_nd isC = true)
    (hcl : vwCl[ci]? = some (C, TT, N)) (he : wc[q0]? = some (b, .inr (ci, fs))) (hnA : As.length = n) (hst : st = As.reverse ++ .ref b :: rest) (hl : ls.size = nL) (hWt : (rest.map fun v => v.category).sum ≤ 8) (hdg : decode cc pc = .ok (.invokevirtual index, 3)) (hroom : cells ≤ R.cells ∧ slots ≤ R.slots) :
    va_Run p l e R s m args below meth c H locs cells slots 0 0 (F0 m pc ls st) rest (P (va_A wc H.size) (Value.ref b :: As).toArray) (va_A wc H.size) := by
  obtain ⟨hx, hb, hml, hown, hts, hr, hlk, hK, hX, hA⟩ := C0
  have hPc : va_P D vwCl wc H := q_sub hP hC
  have hDc := hD.sub isC hn hC
  have hFc := va_free hD hS hA isC hC
  exact va_runV (As := As) (rest := rest) ⟨hx, hb, hml, hown, hts⟩ (hM H.size) cw ⟨q_blind, va_recv hK hPc hcl he, fun U hU hW => ⟨rfl, by rw [hU], by rw [hU]; exact hPc, va_K.moved hW.alike hK, hDc.weaken (fun _ _ _ _ => trivial), by rw [hU]; exact hX.go hS hFc hW⟩⟩ rfl hnA hl hst (lv_room (rest := []) (pc := 0) (ls := ls) (m := m) hWt) hdg hroom
theorem g_endI {rv : Int32} {a : Array Value} (C0 : q_C p s m args meth c D T A own Ts cc nL ret0) (hP : va_P D vwCl ws H) (hD : va_D A ws) (hS : va_S A s.heap H locs) (isC isR : List Nat) (hC : isC.map (fun i => ws[i]?) = wc.map some) (hR : isR.map (fun i => ws[i]?) = wr.map some) (hnR : va_nd isR = true) (hdis : ∀ i ∈ isR, i ∉ isC)
    (hr : va_Run p l e R s m args below meth c H locs cells slots 0 0 (F0 m pc ls st) rest (qI D T w1 rv (va_A wc H.size) a) (va_A wc H.size))
    (kk : ∀ (H1 : Heap) (locs1 : List Loc), va_P D vwCl (wr ++ w1) H1 → va_D A (wr ++ w1) → va_S A s.heap H1 locs1 → W p l e R s m args below meth c H1 locs1 cells slots Q (F0 m (pc + 3) ls (.int rv :: rest))) : W p l e R s m args below meth c H locs cells slots Q (F0 m pc ls st) := by
  obtain ⟨hx, hb, hml, hown, hts, hrt, hlk, hK, hX, hA⟩ := C0
  have hFc := va_free hD hS hA isC hC
  refine va_calli hr hS (fun q _ h => hFc q h) hFc (fun r u t H1 locs1 ht hvm hw hB hz1 hk1 hS1 => ?_)
  obtain ⟨hP1, hK1, hD1⟩ := hB
  rw [ht] at hP1
  have hw : rv = r := Eq.symm hw
  subst hw
  obtain ⟨hP2, hD2⟩ := va_join hP hD isC isR hC hR hnR hdis hk1 hFc hP1 hD1
  exact kk H1 locs1 hP2 hD2 hS1
theorem g_endL {rv : Int64} {a : Array Value} (C0 : q_C p s m args meth c D T A own Ts cc nL ret0) (hP : va_P D vwCl ws H) (hD : va_D A ws) (hS : va_S A s.heap H locs) (isC isR : List Nat) (hC : isC.map (fun i => ws[i]?) = wc.map some) (hR : isR.map (fun i => ws[i]?) = wr.map some) (hnR : va_nd isR = true) (hdis : ∀ i ∈ isR, i ∉ isC)
    (hr : va_Run p l e R s m args below meth c H locs cells slots 0 0 (F0 m pc ls st) rest (qL D T w1 rv (va_A wc H.size) a) (va_A wc H.size))
    (kk : ∀ (H1 : Heap) (locs1 : List Loc), va_P D vwCl (wr ++ w1) H1 → va_D A (wr ++ w1) → va_S A s.heap H1 locs1 → W p l e R s m args below meth c H1 locs1 cells slots Q (F0 m (pc + 3) ls (.long rv :: rest))) : W p l e R s m args below meth c H locs cells slots Q (F0 m pc ls st) := by
  obtain ⟨hx, hb, hml, hown, hts, hrt, hlk, hK, hX, hA⟩ := C0
  have hFc := va_free hD hS hA isC hC
  refine va_calll hr hS (fun q _ h => hFc q h) hFc (fun r u t H1 locs1 ht hvm hw hB hz1 hk1 hS1 => ?_)
  obtain ⟨hP1, hK1, hD1⟩ := hB
  rw [ht] at hP1
  have hw : rv = r := Eq.symm hw
  subst hw
  obtain ⟨hP2, hD2⟩ := va_join hP hD isC isR hC hR hnR hdis hk1 hFc hP1 hD1
  exact kk H1 locs1 hP2 hD2 hS1
theorem g_endV {a : Array Value} (C0 : q_C p s m args meth c D T A own Ts cc nL ret0) (hP : va_P D vwCl ws H) (hD : va_D A ws) (hS : va_S A s.heap H locs) (isC isR : List Nat) (hC : isC.map (fun i => ws[i]?) = wc.map some) (hR : isR.map (fun i => ws[i]?) = wr.map some) (hnR : va_nd isR = true) (hdis : ∀ i ∈ isR, i ∉ isC)
    (hr : va_Run p l e R s m args below meth c H locs cells slots 0 0 (F0 m pc ls st) rest (qV D T w1 (va_A wc H.size) a) (va_A wc H.size))
    (kk : ∀ (H1 : Heap) (locs1 : List Loc), va_P D vwCl (wr ++ w1) H1 → va_D A (wr ++ w1) → va_S A s.heap H1 locs1 → W p l e R s m args below meth c H1 locs1 cells slots Q (F0 m (pc + 3) ls rest)) : W p l e R s m args below meth c H locs cells slots Q (F0 m pc ls st) := by
  obtain ⟨hx, hb, hml, hown, hts, hrt, hlk, hK, hX, hA⟩ := C0
  have hFc := va_free hD hS hA isC hC
  refine va_callv hr hS (fun q _ h => hFc q h) hFc (fun u t H1 locs1 ht hvm hw hB hz1 hk1 hS1 => ?_)
  obtain ⟨hP1, hK1, hD1⟩ := hB
  rw [ht] at hP1
  obtain ⟨hP2, hD2⟩ := va_join hP hD isC isR hC hR hnR hdis hk1 hFc hP1 hD1
  exact kk H1 locs1 hP2 hD2 hS1
theorem g_get {C : String} {TT : u_T} {N ci a : Nat} {fs : List Value} {v : Value} (C0 : q_C p s m args meth c D T A own Ts cc nL ret0) (hin : ∀ w ∈ u_ws C TT N, w ∈ Ts) (k : Nat) (hm : Cond.fieldLink own index C (TT k).2.1 (TT k).2.2.1 ∈ Ts) (hP : va_P D vwCl ws H) (q0 : Nat) (he : ws[q0]? = some (a, .inr (ci, fs))) (hc : vwCl[ci]? = some (C, TT, N)) (hk : k < N) (hd : (TT k).1 = C) (hv : fs[k]? = some v) (hdg : decode cc pc = .ok (.getfield index, 3))
    (kk : W p l e R s m args below meth c H locs cells slots Q (F0 m (pc + 3) ls (v :: rest))) : W p l e R s m args below meth c H locs cells slots Q (F0 m pc ls (.ref a :: rest)) := by
  obtain ⟨hx, hb, hml, hown, hts, hrt, hlk, hK, hX, hA⟩ := C0
  exact va_get (ref := C) hx hb hts hin hown hK hP q0 he hc k hk (hts _ hm) (fun x h => by rw [hd] at h; exact h) hv hdg kk
theorem g_put {C : String} {TT : u_T} {N ci a : Nat} {fs : List Value} {v : Value} {ty : FieldType} (C0 : q_C p s m args meth c D T A own Ts cc nL ret0) (hin : ∀ w ∈ u_ws C TT N, w ∈ Ts) (ty0 : Nat → FieldType) (hty : ∀ k, k < N → parseFieldDescriptor (TT k).2.2.1 = some (ty0 k)) (hnm : ∀ a, a < N → ∀ b, b < N → a ≠ b → (TT a).2.1 ≠ (TT b).2.1) (k : Nat) (hm : Cond.fieldLink own index C (TT k).2.1 (TT k).2.2.1 ∈ Ts) (hP : va_P D vwCl ws H) (hD : va_D A ws) (hS : va_S A s.heap H locs) (q0 : Nat) (he : ws[q0]? = some (a, .inr (ci, fs))) (hc : vwCl[ci]? = some (C, TT, N)) (hk : k < N) (hd : (TT k).1 = C) (hfin : (TT k).2.2.2 = false) (hpd : parseFieldDescriptor (TT k).2.2.1 = some ty) (hn : narrow ty v = v) (hfit : fits ty v = true) (hl : k < fs.length) (hdg : decode cc pc = .ok (.putfield index, 3))
    (kk : ∀ (H1 : Heap) (locs1 : List Loc), va_P D vwCl (ws.set q0 (a, .inr (ci, fs.set k v))) H1 → va_D A (ws.set q0 (a, .inr (ci, fs.set k v))) → va_S A s.heap H1 locs1 → W p l e R s m args below meth c H1 locs1 cells slots Q (F0 m (pc + 3) ls rest)) : W p l e R s m args below meth c H locs cells slots Q (F0 m pc ls (v :: .ref a :: rest)) := by
  obtain ⟨hx, hb, hml, hown, hts, hrt, hlk, hK, hX, hA⟩ := C0
  exact va_put (ref := C) hx hb hts hin ty0 hty hnm hown hK hP hD hS q0 he hc k hk (hts _ hm) (fun x h => by rw [hd] at h; exact h) hfin hpd hn hfit hl hdg kk
theorem g_iast {a : Nat} {cA : ClassId} {n : Nat} {f g : Nat → Int32} {i x : Int32} (C0 : q_C p s m args meth c D T A own Ts cc nL ret0) (hP : va_P D vwCl ws H) (hD : va_D A ws) (hS : va_S A s.heap H locs) (q0 t0 : Nat) (ha : ws[q0]? = some (a, .inl (cA, n, .inl f))) (ht : T[t0]? = some (cA, .int)) (hin : vp_in i n) (hg : upd f i.toNatClampNeg x = g) (hdg : decode cc pc = .ok (.iastore, 1))
    (kk : ∀ (H1 : Heap) (locs1 : List Loc), va_P D vwCl (ws.set q0 (a, .inl (cA, n, .inl g))) H1 → va_D A (ws.set q0 (a, .inl (cA, n, .inl g))) → va_S A s.heap H1 locs1 → W p l e R s m args below meth c H1 locs1 cells slots Q (F0 m (pc + 1) ls rest)) : W p l e R s m args below meth c H locs cells slots Q (F0 m pc ls (.int x :: .int i :: .ref a :: rest)) := by
  obtain ⟨hx, hb, hml, hown, hts, hrt, hlk, hK, hX, hA⟩ := C0
  subst hg
  exact va_iast hx hb hK hP hD hS q0 t0 ha ht hin hdg kk
/-- a new object -/
theorem g_new {C : String} {TT : u_T} {N ci : Nat} {fs : List Value} (C0 : q_C p s m args meth c D T A own Ts cc nL ret0) (hin : ∀ w ∈ u_ws C TT N, w ∈ Ts) (ty : Nat → FieldType) (hty : ∀ k, k < N → parseFieldDescriptor (TT k).2.2.1 = some (ty k)) (h1 : Cond.classLink own index C ∈ Ts) (h2 : Cond.instantiable C N ∈ Ts) (h3 : Cond.initialized C ∈ Ts) (hP : va_P D vwCl ws H) (hD : va_D A ws) (hS : va_S A s.heap H locs) (hc : vwCl[ci]? = some (C, TT, N)) (hfs : ∀ j, j < N → defaultValue (ty j) = vp_V fs j) (hcells : cells + 1 ≤ R.cells) (hslots : slots + N ≤ R.slots) (hdg : decode cc pc = .ok (.new index, 3))
    (kk : ∀ (q : Nat) (H1 : Heap), va_P D vwCl (ws ++ [(q, .inr (ci, fs))]) H1 → va_D A (ws ++ [(q, .inr (ci, fs))]) → va_S A s.heap H1 locs → W p l e R s m args below meth c H1 locs (cells + 1) (slots + N) Q (F0 m (pc + 3) ls (.ref q :: rest))) : W p l e R s m args below meth c H locs cells slots Q (F0 m pc ls rest) := by
  obtain ⟨hx, hb, hml, hown, hts, hrt, hlk, hK, hX, hA⟩ := C0
  exact va_new hx hb hts hin ty hty hown (hts _ h1) (hts _ h2) (hts _ h3) hK hP hD hS hA hc hfs hcells hslots hdg kk
theorem g_RA {U : State} {cA cB : ClassId} {ty : FieldType} (hp : ty = .int ∨ ty = .long ∨ ty = .boolean) (h1 : va_RA U cA ty) (h2 : va_RA U cB ty) : cA = cB := by
  rcases hp with rfl | rfl | rfl
  · exact Option.some.inj (Eq.trans (Eq.symm (show U.vm.findClass _ = some cA from h1)) (show U.vm.findClass _ = some cB from h2))
  · exact Option.some.inj (Eq.trans (Eq.symm (show U.vm.findClass _ = some cA from h1)) (show U.vm.findClass _ = some cB from h2))
  · exact Option.some.inj (Eq.trans (Eq.symm (show U.vm.findClass _ = some cA from h1)) (show U.vm.findClass _ = some cB from h2))
/-- a new row of numbers -/
theorem g_newa {atype : ArrayType} {ty : FieldType} {cX : ClassId} {N' : Nat} {n : Int32} {a0 : vp_A} (C0 : q_C p s m args meth c D T A own Ts cc nL ret0) (hty : newarray.typeOf atype = ty) (h1 : Cond.arrayClass ty ∈ Ts) (hp : ty = .int ∨ ty = .long ∨ ty = .boolean) (k : Nat) (ht : T[k]? = some (cX, ty)) (hP : va_P D vwCl ws H) (hD : va_D A ws) (hS : va_S A s.heap H locs) (ha : ∀ cA : ClassId, vp_cell cA a0 = arrV cA N' (fun _ => defaultValue ty)) (hn : ¬ n < 0) (hN : n.toNatClampNeg = N') (hbytes : N' * componentBytes ty ≤ 536870912) (hcells : cells + 1 ≤ R.cells) (hslots : slots + N' ≤ R.slots) (hdg : decode cc pc = .ok (.newarray atype, 2))
    (kk : ∀ (q : Nat) (H1 : Heap), va_P D vwCl (ws ++ [(q, .inl (cX, a0))]) H1 → va_D A (ws ++ [(q, .inl (cX, a0))]) → va_S A s.heap H1 locs → W p l e R s m args below meth c H1 locs (cells + 1) (slots + N') Q (F0 m (pc + 2) ls (.ref q :: rest))) : W p l e R s m args below meth c H locs cells slots Q (F0 m pc ls (.int n :: rest)) := by
  obtain ⟨hx, hb, hml, hown, hts, hrt, hlk, hK, hX, hA⟩ := C0
  refine va_newa hx hb (by rw [hty]; exact hts _ h1) hty hK hP hD hS hA ha hn hN hbytes hcells hslots hdg (fun q cA H1 hK1 hP1 hD1 hS1 => ?_)
  have e : cA = cX := by
    have r1 := (hK1.2 T.length (cA, ty) (by rw [List.getElem?_append_right (Nat.le_refl _), Nat.sub_self]; rfl)).2
    exact g_RA hp r1 (hK.2 k (cX, ty) ht).2
  subst e
  exact kk q H1 hP1 hD1 hS1
theorem g_putF {C : String} {TT : u_T} {N ci a : Nat} {fs : List Value} {v : Value} {ty : FieldType} (C0 : q_C p s m args meth c D T A C Ts cc nL ret0) (hname : meth.name = "<init>") (hin : ∀ w ∈ u_ws C TT N, w ∈ Ts) (ty0 : Nat → FieldType) (hty : ∀ k, k < N → parseFieldDescriptor (TT k).2.2.1 = some (ty0 k)) (hnm : ∀ a, a < N → ∀ b, b < N → a ≠ b → (TT a).2.1 ≠ (TT b).2.1) (k : Nat) (hm : Cond.fieldLink C index C (TT k).2.1 (TT k).2.2.1 ∈ Ts) (hP : va_P D vwCl ws H) (hD : va_D A ws) (hS : va_S A s.heap H locs) (q0 : Nat) (he : ws[q0]? = some (a, .inr (ci, fs))) (hc : vwCl[ci]? = some (C, TT, N)) (hk : k < N) (hd : (TT k).1 = C) (hfin : (TT k).2.2.2 = true) (hpd : parseFieldDescriptor (TT k).2.2.1 = some ty) (hn : narrow ty v = v) (hfit : fits ty v = true) (hl : k < fs.length) (hdg : decode cc pc = .ok (.putfield index, 3))
    (kk : ∀ (H1 : Heap) (locs1 : List Loc), va_P D vwCl (ws.set q0 (a, .inr (ci, fs.set k v))) H1 → va_D A (ws.set q0 (a, .inr (ci, fs.set k v))) → va_S A s.heap H1 locs1 → W p l e R s m args below meth c H1 locs1 cells slots Q (F0 m (pc + 3) ls rest)) : W p l e R s m args below meth c H locs cells slots Q (F0 m pc ls (v :: .ref a :: rest)) := by
  obtain ⟨hx, hb, hml, hown, hts, hrt, hlk, hK, hX, hA⟩ := C0
  exact va_putF (ref := C) hx hb hts hin ty0 hty hnm hown hK hP hD hS q0 he hc k hk (hts _ hm) (fun x h => by rw [hd] at h; exact h) hfin hname hd hpd hn hfit hl hdg kk
/-- Object's own constructor -/
theorem g_obj {a : Nat} (C0 : q_C p s m args meth c D T A own Ts cc nL ret0) (h1 : Cond.methodLink own index objectInit ∈ Ts) (h2 : Cond.instanceMethod objectInit ∈ Ts) (h3 : Cond.code objectInit ⟨#[0xb1]⟩ 1 none ∈ Ts) (hl : ls.size = nL) (hdg : decode cc pc = .ok (.invokespecial index, 3)) (hf : 1 ≤ R.frames) (ho : 12 ≤ R.locals)
    (kk : W p l e R s m args below meth c H locs cells slots Q (F0 m (pc + 3) ls [])) : W p l e R s m args below meth c H locs cells slots Q (F0 m pc ls [.ref a]) := by
  obtain ⟨hx, hb, hml, hown, hts, hrt, hlk, hK, hX, hA⟩ := C0
  exact W.objInit hx hb hown (hts _ h1) (hts _ h2) (hts _ h3) rfl (hl.trans hml.symm) rfl hdg hf ho kk
end QCD
/-- a constructor's contract: mc cells of ms slots come; P says what stands then -/
def q_N (l : Launch) (y : MethodName) (ws : List Cond) (rm : Room) (D : va_G) (T : List (ClassId × FieldType)) (av : List Value) (w : va_W) (P : (Nat → Prop) → State → Prop) (mc ms : Nat) : Prop :=
  ∀ sz : Nat, Met l y ws rm (va_Pc av (q_Pre D T w sz)) (va_Qv (fun (_ : Unit) => True) (fun _ t => P (va_A w sz) t) (va_A w sz)) mc ms (va_A w sz)
theorem q_bodyN {l : Launch} {y : MethodName} {ws ws' : List Cond} {rm : Room} {D : va_G} {T : List (ClassId × FieldType)} {av : List Value} {w : va_W} {P : (Nat → Prop) → State → Prop} {cc : ByteArray} {maxL mc ms : Nat} (hy : plainName y.cls = true) (hyi : y.name = "<init>") (hw : ws = Cond.code y cc maxL none :: ws') (hlen : (lg_sl av).length ≤ maxL)
    (body : ∀ (p : Program) (e : Env) (s : State) (m : MethodId) (args : Array Value) (below : List Frame) (meth : Method) (c : Code) (A : Nat → Prop), q_C p s m args meth c D T A y.cls ws cc maxL none → meth.name = "<init>" → ∀ (ls : Array Slot), va_P D vwCl w s.heap → va_D A w → va_S A s.heap s.heap [] → lv_has ls maxL (lv_args 0 av) →
      W p l e rm s m args below meth c s.heap [] 0 0 (MQ below (va_Qv (fun (_ : Unit) => True) (fun _ t => P A t) A) args s mc ms A) (F0 m 0 ls [])) : q_N l y ws rm D T av w P mc ms := by
  intro sz
  refine Met.ofW (cc := cc) (maxL := maxL) (ret := none) hy hw ?_
  intro p e s m args below meth c s₁ B hml hv
  obtain ⟨rfl, hsz, hP, hK, hD0, hX⟩ := hv
  have hl := lv_entry av (n := maxL) hlen
  rw [lg_entry_eq]
  subst hsz
  have hname : meth.name = "<init>" := (name_of_methodNamed B.named B.method).1.trans hyi
  exact body p e s m _ below meth c (va_A w s.heap.size) ⟨B.exec, B.bytes, hml, findClass_of_methodNamed B.named, atoms_spec (ws := ws) B.pre, B.returns, B.notSynchronized, hK, hX, fun q h => Or.inr h⟩ hname _ hP hD0.self va_S.rf hl
section QCE
variable {p : Program} {l : Launch} {e : Env} {R : Room} {s : State} {m : MethodId} {args : Array Value} {below : List Frame} {meth : Method} {c : Code} {H : Heap} {locs : List Loc} {Q : State → Prop} {cells slots : Nat}
variable {D : va_G} {T : List (ClassId × FieldType)} {A : Nat → Prop} {own : String} {Ts : List Cond} {cc : ByteArray} {nL : Nat} {ret0 : Option FieldType}
variable {y : MethodName} {ws' : List Cond} {rm : Room} {bytes : ByteArray} {maxL index n pc mc ms : Nat} {ws wc wr : va_W} {ls : Array Slot} {st rest As : List Value}
theorem q_retN {P : (Nat → Prop) → State → Prop} (C0 : q_C p s m args meth c D T A own Ts cc nL none) (hS : va_S A s.heap H locs) (hq : ∀ t : State, t.heap = H → s.WarmedH t.vm → P A t) (hdg : decode cc pc = .ok (.return_, 1)) : W p l e R s m args below meth c H locs cells slots (MQ below (va_Qv (fun (_ : Unit) => True) (fun _ t => P A t) A) args s cells slots A) (F0 m pc ls []) := by
  obtain ⟨hx, hb, hml, hown, hts, hrt, hlk, hK, hX, hA⟩ := C0
  exact W.vret hx hb hrt (fun t ht hW => ⟨⟨(), rfl, trivial, hq t ht hW⟩, hS.F ht⟩) hS.2.2 hdg hlk
/-- a constructor is called -/
theorem q_runN {b : Nat} {P : (Nat → Prop) → State → Prop} (C0 : q_C p s m args meth c D T A own Ts cc nL ret0) (hM : q_N l y ws' rm D T (.ref b :: As) wc P mc ms) (cw : CallB R s args own index y bytes maxL none ws' rm mc ms n ∧ y.name = "<init>" ∧ (Cond.instanceMethod y).before args s = true)
    (hP : va_P D vwCl ws H) (hD : va_D A ws) (hS : va_S A s.heap H locs) (isC isR : List Nat) (hC : isC.map (fun i => ws[i]?) = wc.map some) (hR : isR.map (fun i => ws[i]?) = wr.map some) (hn : va_nd isC = true) (hnR : va_nd isR = true) (hdis : ∀ i ∈ isR, i ∉ isC)
    (hnA : As.length = n) (hst : st = As.reverse ++ .ref b :: rest) (hl : ls.size = nL) (hWt : (rest.map fun v => v.category).sum ≤ 8) (hdg : decode cc pc = .ok (.invokespecial index, 3)) (hroom : cells + mc ≤ R.cells ∧ slots + ms ≤ R.slots)
    (kk : ∀ (t : State) (H1 : Heap) (locs1 : List Loc) (wc1 : Nat → Prop), t.heap = H1 → P wc1 t → (∀ w1 : va_W, va_P D vwCl w1 H1 → va_D wc1 w1 → va_P D vwCl (wr ++ w1) H1 ∧ va_D A (wr ++ w1)) → va_S A s.heap H1 locs1 → W p l e R s m args below meth c H1 locs1 (cells + mc) (slots + ms) Q (F0 m (pc + 3) ls rest)) : W p l e R s m args below meth c H locs cells slots Q (F0 m pc ls st) := by
  obtain ⟨hx, hb, hml, hown, hts, hrt, hlk, hK, hX, hA⟩ := C0
  have hPc : va_P D vwCl wc H := q_sub hP hC
  have hDc := hD.sub isC hn hC
  have hFc := va_free hD hS hA isC hC
  refine va_callv (va_runI (As := As) (rest := rest) ⟨hx, hb, hml, hown, hts⟩ (hM H.size) cw ⟨q_blind, fun U hU hW => ⟨rfl, by rw [hU], by rw [hU]; exact hPc, va_K.moved hW.alike hK, hDc.weaken (fun _ _ _ _ => trivial), by rw [hU]; exact hX.go hS hFc hW⟩⟩ rfl hnA hl hst (lv_room (rest := []) (pc := 0) (ls := ls) (m := m) hWt) hdg hroom) hS (fun q _ h => hFc q h) hFc (fun u t H1 locs1 ht hvm hw hB hz1 hk1 hS1 => ?_)
  exact kk t H1 locs1 _ ht hB (fun w1 hP1 hD1 => va_join hP hD isC isR hC hR hnR hdis hk1 hFc hP1 hD1) hS1
theorem q_runNN {host : String} {b : Nat} {P : (Nat → Prop) → State → Prop} (C0 : q_C p s m args meth c D T A own Ts cc nL ret0) (hM : q_N l y ws' rm D T (.ref b :: As) wc P mc ms) (cw : va_CN R s args own index y host bytes maxL none ws' rm mc ms n ∧ y.name = "<init>" ∧ (Cond.instanceMethod y).before args s = true)
    (hP : va_P D vwCl ws H) (hD : va_D A ws) (hS : va_S A s.heap H locs) (isC isR : List Nat) (hC : isC.map (fun i => ws[i]?) = wc.map some) (hR : isR.map (fun i => ws[i]?) = wr.map some) (hn : va_nd isC = true) (hnR : va_nd isR = true) (hdis : ∀ i ∈ isR, i ∉ isC)
    (hnA : As.length = n) (hst : st = As.reverse ++ .ref b :: rest) (hl : ls.size = nL) (hWt : (rest.map fun v => v.category).sum ≤ 8) (hdg : decode cc pc = .ok (.invokespecial index, 3)) (hroom : cells + mc ≤ R.cells ∧ slots + ms ≤ R.slots)
    (kk : ∀ (t : State) (H1 : Heap) (locs1 : List Loc) (wc1 : Nat → Prop), t.heap = H1 → P wc1 t → (∀ w1 : va_W, va_P D vwCl w1 H1 → va_D wc1 w1 → va_P D vwCl (wr ++ w1) H1 ∧ va_D A (wr ++ w1)) → va_S A s.heap H1 locs1 → W p l e R s m args below meth c H1 locs1 (cells + mc) (slots + ms) Q (F0 m (pc + 3) ls rest)) : W p l e R s m args below meth c H locs cells slots Q (F0 m pc ls st) := by
  obtain ⟨hx, hb, hml, hown, hts, hrt, hlk, hK, hX, hA⟩ := C0
  have hPc : va_P D vwCl wc H := q_sub hP hC
  have hDc := hD.sub isC hn hC
  have hFc := va_free hD hS hA isC hC
  refine va_callv (va_runIN (As := As) (rest := rest) ⟨hx, hb, hml, hown, hts⟩ (hM H.size) cw ⟨q_blind, fun U hU hW => ⟨rfl, by rw [hU], by rw [hU]; exact hPc, va_K.moved hW.alike hK, hDc.weaken (fun _ _ _ _ => trivial), by rw [hU]; exact hX.go hS hFc hW⟩⟩ rfl hnA hl hst (lv_room (rest := []) (pc := 0) (ls := ls) (m := m) hWt) hdg hroom) hS (fun q _ h => hFc q h) hFc (fun u t H1 locs1 ht hvm hw hB hz1 hk1 hS1 => ?_)
  exact kk t H1 locs1 _ ht hB (fun w1 hP1 hD1 => va_join hP hD isC isR hC hR hnR hdis hk1 hFc hP1 hD1) hS1
end QCE
