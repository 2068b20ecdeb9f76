/-! THE CLAIM OUT OF ONE WALK OF THE LAW'S BODY. Your part is whole_start (and what it stands on); all else here is the same for every law, but numbers. -/
def R_law : String := "RungPlayLaw"
def lw_P (b : Addr) (xs : List Int32) (args : Array Value) (s : State) : Prop := args = #[.ref b] ∧ s.IntsAt b xs ∧ xs.length ≤ 2560 ∧ (Jvm.Cond.and given_1 narrow_1).before args s = true
def lw_Q (_ : Array Value) (s : State) (o : Outcome) (t : State) : Prop := o = .returned (some (.int 1)) ∧ Framed s o t [] 600000 7302250
def lw_Z (below : List Frame) (a : Array Value) (s : State) : State → Prop := fun t => ∃ o, t.status = .running ∧ Ended t below o ∧ lw_Q a s o t
/-- the law's own end, with 1 on the stack, nothing written that was there before, its room as the claim has it -/
theorem lw_ret {p : Program} {l : Launch} {e : Env} {s : State} {m : MethodId} {below : List Frame} {meth : Method} {c : Code} {b : Nat} (hx : p.tables.exec = Jvm.exec) (hb : c.code = code) (hr : meth.sig.returnType = ret) (hlocks : meth.locks = false) {pc : Nat} {H : Heap} {ls : Array Slot} (hdg : decode code pc = .ok (.ireturn, 1)) : W p l e room_1 s m #[Value.ref b] below meth c H [] 600000 7302250 (lw_Z below #[Value.ref b] s) (F0 m pc ls [.int 1]) := by
  intro T hT X
  obtain ⟨fs, hret, hrun, hended, hW, hframe⟩ := X.leave (v := some (.int 1)) (hlocks := hlocks) (fun h => by rw [hr] at h; cases h)
  have hmeth' : T.vm.method? m = some meth := X.method'
  refine ⟨T.setFrames fs, ?_, .returned (some (.int 1)), hrun, hended, rfl, ⟨_, rfl⟩, hW, hframe⟩
  jvm_step X.here [X.here.top, hx, hb, hdg, hmeth', hr, ret, narrow_b1]
  (try refine ⟨rfl, ?_⟩); (try refine ⟨rfl, ?_⟩)
  first | (intro acts; rw [hret _ acts rfl rfl rfl]) | rw [hret _ _ rfl rfl rfl]
  exact Steps.refl _
/-- what holds at the law's entry: the machine, the code, the tables' words (any of lw_tbl by 'hts w (by decide +kernel)'), the script of L ints xs at the cell b, what the Statement gives of the start (any of its parts by flat_of_before) -/
def lw_At (p : Program) (s : State) (m : MethodId) (meth : Method) (c : Code) (b L : Nat) (xs : Nat → Int32) : Prop :=
  p.tables.exec = Jvm.exec ∧ c.code = code ∧ meth.sig.returnType = ret ∧ c.maxLocals = 4 ∧ s.vm.findClass R_law = some m.cls ∧ (∀ w ∈ lw_tbl, w.before #[Value.ref b] s = true) ∧ va_X b L xs s s.heap ∧ b < s.heap.size ∧ meth.locks = false ∧ (Jvm.Cond.and given_1 narrow_1).before #[Value.ref b] s = true
theorem m_law_cl6 : Cond.classLink RL 7 RX6 ∈ wsL_law := by decide +kernel
theorem m_law_ins6 : Cond.instantiable RX6 5 ∈ wsL_law := by decide +kernel
theorem m_law_ini6 : Cond.initialized RX6 ∈ wsL_law := by decide +kernel
theorem m_law_ml6 : Cond.methodLink RL 9 yX6_init ∈ wsL_law := by decide +kernel
theorem m_law_im6 : Cond.instanceMethod yX6_init ∈ wsL_law := by decide +kernel
theorem m_law_cl7 : Cond.classLink RL 10 RX7 ∈ wsL_law := by decide +kernel
theorem m_law_ins7 : Cond.instantiable RX7 11 ∈ wsL_law := by decide +kernel
theorem m_law_ini7 : Cond.initialized RX7 ∈ wsL_law := by decide +kernel
theorem m_law_ml7 : Cond.methodLink RL 12 yX7_init ∈ wsL_law := by decide +kernel
theorem m_law_im7 : Cond.instanceMethod yX7_init ∈ wsL_law := by decide +kernel
set_option maxRecDepth 100000 in
theorem lw_X {b : Nat} {s : State} (hts : ∀ w ∈ lw_tbl, w.before #[Value.ref b] s = true) (hgv : (Jvm.Cond.and given_1 narrow_1).before #[Value.ref b] s = true) : q_X (fun q : Nat => s.heap.size ≤ q) s s.heap := by
  have hs := flat_of_before _ hgv
  have hout : ∀ a : Nat, a < s.heap.size → ¬ (fun q : Nat => s.heap.size ≤ q) a := fun a h => Nat.not_le.mpr h
  obtain ⟨t, ht, hT⟩ := va_Tof (A := fun q : Nat => s.heap.size ≤ q) (tm := .static "RungPlay" "TENS" "[J") (ty := .long) (N := 11) (f := fun j => .long (q_ten j)) (by decide) (hs (Cond.arrayOf (.static "RungPlay" "TENS" "[J") .long) (by decide +kernel)) (va_eqt (hs (Cond.eq (.length (.static "RungPlay" "TENS" "[J")) (.int 11)) (by decide +kernel))) (fun j hj => by
    rcases (show j = 0 ∨ j = 1 ∨ j = 2 ∨ j = 3 ∨ j = 4 ∨ j = 5 ∨ j = 6 ∨ j = 7 ∨ j = 8 ∨ j = 9 ∨ j = 10 by omega) with rfl | rfl | rfl | rfl | rfl | rfl | rfl | rfl | rfl | rfl | rfl
    · exact va_eqtl (hs (Cond.eq (.elem (.static "RungPlay" "TENS" "[J") (.int 0)) (.long 1)) (by decide +kernel))
    · exact va_eqtl (hs (Cond.eq (.elem (.static "RungPlay" "TENS" "[J") (.int 1)) (.long 10)) (by decide +kernel))
    · exact va_eqtl (hs (Cond.eq (.elem (.static "RungPlay" "TENS" "[J") (.int 2)) (.long 100)) (by decide +kernel))
    · exact va_eqtl (hs (Cond.eq (.elem (.static "RungPlay" "TENS" "[J") (.int 3)) (.long 1000)) (by decide +kernel))
    · exact va_eqtl (hs (Cond.eq (.elem (.static "RungPlay" "TENS" "[J") (.int 4)) (.long 10000)) (by decide +kernel))
    · exact va_eqtl (hs (Cond.eq (.elem (.static "RungPlay" "TENS" "[J") (.int 5)) (.long 100000)) (by decide +kernel))
    · exact va_eqtl (hs (Cond.eq (.elem (.static "RungPlay" "TENS" "[J") (.int 6)) (.long 1000000)) (by decide +kernel))
    · exact va_eqtl (hs (Cond.eq (.elem (.static "RungPlay" "TENS" "[J") (.int 7)) (.long 10000000)) (by decide +kernel))
    · exact va_eqtl (hs (Cond.eq (.elem (.static "RungPlay" "TENS" "[J") (.int 8)) (.long 100000000)) (by decide +kernel))
    · exact va_eqtl (hs (Cond.eq (.elem (.static "RungPlay" "TENS" "[J") (.int 9)) (.long 1000000000)) (by decide +kernel))
    · exact va_eqtl (hs (Cond.eq (.elem (.static "RungPlay" "TENS" "[J") (.int 10)) (.long 10000000000)) (by decide +kernel))) hout
  exact ⟨⟨t, va_Zof (hts (.laysStatic "RungPlay" "TENS" "[J") (by decide +kernel)) (hts (.initialized "RungPlay") (by decide +kernel)) ht hout, hT⟩, va_Nw.of rfl (hts (.fieldLinkNest RX0 91 RX6 "TENS" "[J" RX6) (by decide +kernel)), va_Nw.of rfl (hts (.methodLinkNest RX5 33 yX6_within RX6) (by decide +kernel)), va_Nw.of rfl (hts (.methodLinkNest RX6 9 yX5_init RX6) (by decide +kernel)), va_Nw.of rfl (hts (.methodLinkNest RX4 17 yX3_init RX6) (by decide +kernel))⟩
