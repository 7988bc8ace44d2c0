/-! THE CLAIM OUT OF ONE WALK OF THE LAW'S BODY. Your part is whole_start (and what it stands on); all else here is the same for every law, but numbers. -/
def R_law : String := "RiscHartLaw"
def lw_P (b : Addr) (xs : List Int32) (args : Array Value) (s : State) : Prop := args = #[.ref b] ∧ s.IntsAt b xs ∧ xs.length ≤ 1536 ∧ (Jvm.Cond.and given_1 narrow_1).before args s = true
def lw_Q (_ : Array Value) (s : State) (o : Outcome) (t : State) : Prop := o = .returned (some (.int 1)) ∧ Framed s o t [] 601024 7293034
def lw_Z (below : List Frame) (a : Array Value) (s : State) : State → Prop := fun t => ∃ o, t.status = .running ∧ Ended t below o ∧ lw_Q a s o t
/-- the law's own end, with 1 on the stack, nothing written that was there before, its room as the claim has it -/
theorem lw_ret {p : Program} {l : Launch} {e : Env} {s : State} {m : MethodId} {below : List Frame} {meth : Method} {c : Code} {b : Nat} (hx : p.tables.exec = Jvm.exec) (hb : c.code = code) (hr : meth.sig.returnType = ret) (hlocks : meth.locks = false) {pc : Nat} {H : Heap} {ls : Array Slot} (hdg : decode code pc = .ok (.ireturn, 1)) : W p l e room_1 s m #[Value.ref b] below meth c H [] 601024 7293034 (lw_Z below #[Value.ref b] s) (F0 m pc ls [.int 1]) := by
  intro T hT X
  obtain ⟨fs, hret, hrun, hended, hW, hframe⟩ := X.leave (v := some (.int 1)) (hlocks := hlocks) (fun h => by rw [hr] at h; cases h)
  have hmeth' : T.vm.method? m = some meth := X.method'
  refine ⟨T.setFrames fs, ?_, .returned (some (.int 1)), hrun, hended, rfl, ⟨_, rfl⟩, hW, hframe⟩
  jvm_step X.here [X.here.top, hx, hb, hdg, hmeth', hr, ret, narrow_b1]
  (try refine ⟨rfl, ?_⟩); (try refine ⟨rfl, ?_⟩)
  first | (intro acts; rw [hret _ acts rfl rfl rfl]) | rw [hret _ _ rfl rfl rfl]
  exact Steps.refl _
/-- what holds at the law's entry: the machine, the code, the tables' words (any of lw_tbl by 'hts w (by decide +kernel)'), the script of L ints xs at the cell b, what the Statement gives of the start (any of its parts by flat_of_before) -/
def lw_At (p : Program) (s : State) (m : MethodId) (meth : Method) (c : Code) (b L : Nat) (xs : Nat → Int32) : Prop :=
  p.tables.exec = Jvm.exec ∧ c.code = code ∧ meth.sig.returnType = ret ∧ c.maxLocals = 8 ∧ s.vm.findClass R_law = some m.cls ∧ (∀ w ∈ lw_tbl, w.before #[Value.ref b] s = true) ∧ va_X b L xs s s.heap ∧ b < s.heap.size ∧ meth.locks = false ∧ (Jvm.Cond.and given_1 narrow_1).before #[Value.ref b] s = true
set_option maxRecDepth 100000 in
theorem lw_z1 : Cond.laysStatic Bundle.tN "UNASSIGNED_STACK" Bundle.steD ∈ lw_tbl := by decide +kernel
set_option maxRecDepth 100000 in
theorem lw_z2 : Cond.laysStatic Bundle.tN "SUPPRESSED_SENTINEL" Bundle.listD ∈ lw_tbl := by decide +kernel
set_option maxRecDepth 100000 in
theorem lw_z3 : Cond.initialized Bundle.tN ∈ lw_tbl := by decide +kernel
set_option maxRecDepth 100000 in
theorem lw_z6 : ∀ w ∈ th_tw, w ∈ lw_tbl := by decide +kernel
set_option maxRecDepth 100000 in
theorem lw_z8_26 : Cond.stringRef RHart 26 "no such byte" ∈ lw_tbl := by decide +kernel
set_option maxRecDepth 100000 in
theorem lw_z8_39 : Cond.stringRef RHart 39 "no such word" ∈ lw_tbl := by decide +kernel
set_option maxRecDepth 100000 in
theorem lw_z8_47 : Cond.stringRef RHart 47 "no such page" ∈ lw_tbl := by decide +kernel
set_option maxRecDepth 100000 in
theorem lw_z8_50 : Cond.stringRef RHart 50 "no such rights" ∈ lw_tbl := by decide +kernel
set_option maxRecDepth 100000 in
theorem lw_z8_55 : Cond.stringRef RHart 55 "no such register" ∈ lw_tbl := by decide +kernel
set_option maxRecDepth 100000 in
theorem lw_z8_72 : Cond.stringRef RHart 72 "no such number of steps" ∈ lw_tbl := by decide +kernel
set_option maxRecDepth 100000 in
theorem lw_z8_86 : Cond.stringRef RHart 86 "no such count" ∈ lw_tbl := by decide +kernel
theorem lw_z7 {s : State} {args : Array Value} {c : ClassId} (hc : s.vm.findClass RHart = some c) (h : ∀ w ∈ lw_tbl, w.before args s = true) : ∀ i ∈ th_si, th_St RHart i s.vm := by
  intro i hi
  simp only [th_si, List.mem_cons, List.not_mem_nil, or_false] at hi
  rcases hi with rfl | rfl | rfl | rfl | rfl | rfl | rfl
  · exact th_St.of hc (h _ lw_z8_26)
  · exact th_St.of hc (h _ lw_z8_39)
  · exact th_St.of hc (h _ lw_z8_47)
  · exact th_St.of hc (h _ lw_z8_50)
  · exact th_St.of hc (h _ lw_z8_55)
  · exact th_St.of hc (h _ lw_z8_72)
  · exact th_St.of hc (h _ lw_z8_86)
set_option maxRecDepth 100000 in
theorem lw_z4 : Cond.isRef (.static Bundle.tN "UNASSIGNED_STACK" Bundle.steD) ∈ flatC (Jvm.Cond.and given_1 narrow_1) := by decide +kernel
set_option maxRecDepth 100000 in
theorem lw_z5 : Cond.isRef (.static Bundle.tN "SUPPRESSED_SENTINEL" Bundle.listD) ∈ flatC (Jvm.Cond.and given_1 narrow_1) := by decide +kernel
