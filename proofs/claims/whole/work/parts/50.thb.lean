/-! what a throw asks of the statics of Throwable; the throw site; methods with an exception table -/
abbrev eI : String := "java/lang/IndexOutOfBoundsException"
abbrev eA : String := "java/lang/IllegalArgumentException"
abbrev eNames : List String := ["java/lang/RuntimeException", "java/lang/Exception"]
/-- a string constant that has been resolved -/
def th_St (own : String) (idx : Nat) (vm : Vm) : Prop := ∃ (c : ClassId) (k : Class) (cf : ClassFile) (i : Nat) (a : Addr), vm.findClass own = some c ∧ vm.classes[c]? = some k ∧ k.cf = some cf ∧ cf.constantPool[idx]? = some (.string i) ∧ k.resolved[idx]? = some (some (.string a))
theorem th_St.moved {own : String} {idx : Nat} {u : State} {vm : Vm} (hW : u.WarmedH vm) (h : th_St own idx u.vm) : th_St own idx vm := by
  obtain ⟨c, k, cf, i, a, h1, h2, h3, h4, h5⟩ := h
  obtain ⟨k', hk', he⟩ := hW.alike.2.2 _ _ h2
  refine ⟨c, k', cf, i, a, (hW.alike.findClass _ _).trans h1, hk', by rw [he]; exact h3, h4, ?_⟩
  rcases hW.entry h2 hk' idx with h | ⟨h, -⟩
  · rw [h]; exact h5
  · rw [h5] at h; cases h
theorem th_St.of {own text : String} {idx : Nat} {args : Array Value} {s : State} {c : ClassId} (hc : s.vm.findClass own = some c) (h : (Cond.stringRef own idx text).before args s = true) : th_St own idx s.vm := by
  obtain ⟨k, cf, i, a, h1, h2, h3, -, h5, -⟩ := Cond.stringRef_spec hc h
  exact ⟨c, k, cf, i, a, hc, h1, h2, h3, h5⟩
/-- where a static of the class lies -/
def th_LS (C n d : String) (A : Nat → Prop) (U : State) (H : Heap) : Prop := ∃ (c : ClassId) (k : Class) (i : Nat) (f : Field) (a : Nat) (cell : Cell), U.vm.findClass C = some c ∧ U.fieldFound? C n d = some (c, k, i, f) ∧ f.isStatic = true ∧ k.statics = some a ∧ H[a]? = some cell ∧ cell.vm.isStatics = true ∧ cell.cls = c ∧ f.slot < cell.slots.size ∧ k.staticTypes[f.slot]? = some f.type ∧ ¬ A a
theorem th_LS.moved {C n d : String} {A : Nat → Prop} {u U : State} {H : Heap} (hvm : u.vm.Alike U.vm) (h : th_LS C n d A u H) : th_LS C n d A U H := by
  obtain ⟨c, k, i, f, a, cell, h1, h2, h3, h4, h5, h6, h7, h8, h9, h10⟩ := h
  obtain ⟨k', hi', he⟩ := State.fieldFound?_setVm hvm h2
  exact ⟨c, k', i, f, a, cell, (hvm.findClass _ _).trans h1, hi', h3, by rw [he]; exact h4, h5, h6, h7, h8, by rw [he]; exact h9, h10⟩
theorem th_LS.kept {C n d : String} {A : Nat → Prop} {U : State} {H H1 : Heap} (h : th_LS C n d A U H) (hq : ∀ a : Nat, a < H.size → ¬ A a → H1[a]? = H[a]?) : th_LS C n d A U H1 := by
  obtain ⟨c, k, i, f, a, cell, h1, h2, h3, h4, h5, h6, h7, h8, h9, h10⟩ := h
  exact ⟨c, k, i, f, a, cell, h1, h2, h3, h4, by rw [hq a (Array.getElem?_eq_some_iff.mp h5).1 h10]; exact h5, h6, h7, h8, h9, h10⟩
theorem th_LS.narrow {C n d : String} {A B : Nat → Prop} {U : State} {H : Heap} (h : th_LS C n d A U H) (hAB : ∀ q, B q → A q) : th_LS C n d B U H := by
  obtain ⟨c, k, i, f, a, cell, h1, h2, h3, h4, h5, h6, h7, h8, h9, h10⟩ := h
  exact ⟨c, k, i, f, a, cell, h1, h2, h3, h4, h5, h6, h7, h8, h9, fun z => h10 (hAB a z)⟩
theorem th_LS.of {C n d : String} {A : Nat → Prop} {args : Array Value} {s : State} (h : (Cond.laysStatic C n d).before args s = true) (hA : ∀ a : Nat, a < s.heap.size → ¬ A a) : th_LS C n d A s s.heap := by
  obtain ⟨c, k, i, f, a, cell, h1, h2, h3, h4, h5, h6, h7, h8, h9⟩ := Cond.laysStatic_spec h
  exact ⟨c, k, i, f, a, cell, h1, h2, h3, h4, h5, h6, h7, h8, h9, hA a (Array.getElem?_eq_some_iff.mp h5).1⟩
theorem th_LS.use {C n d : String} {A : Nat → Prop} {args : Array Value} {s : State} (h : th_LS C n d A s s.heap) : (Cond.laysStatic C n d).before args s = true := by
  obtain ⟨c, k, i, f, a, cell, h1, h2, h3, h4, h5, h6, h7, h8, h9, -⟩ := h
  simp [Cond.before, Cond.holds, Cond.value, h1, h2, h3, h4, h5, h6, h7, h8, h9]
def th_tw : List Cond := [.declares (Bundle.initS "java/lang/RuntimeException"), .declares (Bundle.initS "java/lang/Exception"), .declares (Bundle.initS "java/lang/Throwable"), .castable eI eI, .castable eA eA]
def th_si : List Nat := [26, 39, 47, 50, 55, 72, 86]
theorem th_tw_on : ∀ w ∈ th_tw, w.onTables = true := by decide +kernel
theorem th_tw_moved {w : Cond} (hw : w ∈ th_tw) {u U : State} (hvm : u.vm.Alike U.vm) (h : va_Nw w u) : va_Nw w U := by
  have tr : w.before #[] (u.setVm U.vm) = true → w.before #[] U = true := va_tabs (th_tw_on w hw) (rfl : (u.setVm U.vm).vm = U.vm)
  unfold va_Nw at h ⊢
  simp only [th_tw, List.mem_cons, List.not_mem_nil, or_false] at hw
  rcases hw with rfl | rfl | rfl | rfl | rfl
  · exact tr (by rw [Cond.declares_setVm hvm]; exact h)
  · exact tr (by rw [Cond.declares_setVm hvm]; exact h)
  · exact tr (by rw [Cond.declares_setVm hvm]; exact h)
  · exact tr (by rw [Cond.castable_setVm hvm]; exact h)
  · exact tr (by rw [Cond.castable_setVm hvm]; exact h)
/-- all that a throw asks of a state beside the words that every call keeps -/
def th_ZA (A : Nat → Prop) (U : State) (H : Heap) : Prop := (va_Zq Bundle.tN "UNASSIGNED_STACK" Bundle.steD A U H ∧ va_Zq Bundle.tN "SUPPRESSED_SENTINEL" Bundle.listD A U H) ∧ (th_LS Bundle.tN "UNASSIGNED_STACK" Bundle.steD A U H ∧ th_LS Bundle.tN "SUPPRESSED_SENTINEL" Bundle.listD A U H) ∧ (∀ w ∈ th_tw, va_Nw w U) ∧ ∀ i ∈ th_si, th_St RHart i U.vm
abbrev th_ZH (U : State) (H : Heap) : Prop := th_ZA (fun _ => False) U H
theorem th_ZA.moved {A : Nat → Prop} {u U : State} {H : Heap} (hW : u.WarmedH U.vm) (h : th_ZA A u H) : th_ZA A U H :=
  ⟨⟨va_Zq.moved hW.alike h.1.1, va_Zq.moved hW.alike h.1.2⟩, ⟨h.2.1.1.moved hW.alike, h.2.1.2.moved hW.alike⟩, fun w hw => th_tw_moved hw hW.alike (h.2.2.1 w hw), fun i hi => (h.2.2.2 i hi).moved hW⟩
theorem th_ZA.calling {A : Nat → Prop} {U : State} {H : Heap} {g : JFrame} {mk : MethodId} {a : Array Value} (h : th_ZA A U H) : th_ZA A (U.calling g mk a) H :=
  ⟨⟨va_Zq.moved (u := U) (U := U.calling g mk a) (Vm.Alike.refl U.vm) h.1.1, va_Zq.moved (u := U) (U := U.calling g mk a) (Vm.Alike.refl U.vm) h.1.2⟩, ⟨th_LS.moved (u := U) (U := U.calling g mk a) (Vm.Alike.refl U.vm) h.2.1.1, th_LS.moved (u := U) (U := U.calling g mk a) (Vm.Alike.refl U.vm) h.2.1.2⟩, fun w hw => va_Nw.same (u := U) (U := U.calling g mk a) (th_tw_on w hw) rfl (h.2.2.1 w hw), h.2.2.2⟩
theorem th_ZA.kept {A : Nat → Prop} {U : State} {H H1 : Heap} (h : th_ZA A U H) (hq : ∀ a : Nat, a < H.size → ¬ A a → H1[a]? = H[a]?) : th_ZA A U H1 := ⟨⟨h.1.1.kept hq, h.1.2.kept hq⟩, ⟨h.2.1.1.kept hq, h.2.1.2.kept hq⟩, h.2.2⟩
theorem th_ZA.narrow {A B : Nat → Prop} {U : State} {H : Heap} (h : th_ZA A U H) (hAB : ∀ q, B q → A q) : th_ZA B U H := ⟨⟨h.1.1.narrow hAB, h.1.2.narrow hAB⟩, ⟨h.2.1.1.narrow hAB, h.2.1.2.narrow hAB⟩, h.2.2⟩
theorem th_Zref {args : Array Value} {s : State} {C n d : String} {A : Nat → Prop} (h : va_Zq C n d A s s.heap) : (Cond.isRef (.static C n d)).before args s = true := by
  rcases h with ⟨cf, kf, fi, f, a, cell, h1, h2, h3, h4, h5, h6, h7, h8⟩ | ⟨t, cf, kf, fi, f, a, cell, h1, h2, h3, h4, h5, h6, h7, h8⟩ <;>
    simp [Cond.before, Cond.holds, Cond.value, Term.eval, State.fieldNamed?, h1, h2, h4, h5, h6, h7]
def th_r1 : Cond := .isRef (.static Bundle.tN "UNASSIGNED_STACK" Bundle.steD)
def th_r2 : Cond := .isRef (.static Bundle.tN "SUPPRESSED_SENTINEL" Bundle.listD)
def th_r3 : Cond := .laysStatic Bundle.tN "UNASSIGNED_STACK" Bundle.steD
def th_r4 : Cond := .laysStatic Bundle.tN "SUPPRESSED_SENTINEL" Bundle.listD
theorem th_own {args : Array Value} {s : State} {own N : String} {ic : Nat} {names : List String} (hsub : ∀ w ∈ Bundle.ownAtoms own ic N names, w = th_r1 ∨ w = th_r2 ∨ w = th_r3 ∨ w = th_r4 ∨ w ∈ th_tw ∨ w ∈ lw_g) (hg : ∀ w ∈ lw_g, w.before args s = true) (hZ : th_ZH s s.heap) : ∀ w ∈ Bundle.ownAtoms own ic N names, w.before args s = true := by
  intro w hw
  rcases hsub w hw with rfl | rfl | rfl | rfl | h | h
  · exact th_Zref hZ.1.1
  · exact th_Zref hZ.1.2
  · exact hZ.2.1.1.use
  · exact hZ.2.1.2.use
  · exact va_Nw.use (th_tw_on w h) (hZ.2.2.1 w h)
  · exact hg w h
theorem th_cast {args : Array Value} {s : State} {H : Heap} {A : Nat → Prop} (hZ : th_ZA A s H) {w : Cond} (hw : w ∈ th_tw) : w.before args s = true := va_Nw.use (th_tw_on w hw) (hZ.2.2.1 w hw)
theorem th_tab {l : Launch} {y : MethodName} {ws ws' : List Cond} {rm : Room} {cc : ByteArray} {maxL : Nat} {ret : Option FieldType} {hh : List (Nat × Nat × Nat × Nat)} {p : Program} {e : Env} {s : State} {m : MethodId} {args : Array Value} {below : List Frame} {meth : Method} {c : Code} {s₁ : State}
    (hw : ws = Cond.codeWith y cc maxL ret hh :: ws') (B : BodyLoose p l y (headSpec ws rm) cc maxL ret e s m args below meth c s₁) : c.exceptionTable.toList = tableOf hh := by
  obtain ⟨m9, meth', c', hn9, h1, h2, -, -, h5, -⟩ := Cond.codeWith_spec (atoms_spec (ws := ws) B.pre _ (by rw [hw]; exact List.mem_cons_self))
  cases B.named.symm.trans hn9
  cases B.method.symm.trans h1
  have X := Stand.of_body B
  cases X.code.symm.trans h2
  rw [← h5, table_eq]
def mk_PZ (D : va_G) (cl : List vw_C) (tys : List (ClassId × FieldType)) (G : Heap) (av : List Value) : Array Value → State → Prop := va_Pc av (fun U => U.heap = G ∧ va_K D cl tys U ∧ th_ZH U G)
theorem mk_blindZ {D : va_G} {cl : List vw_C} {tys : List (ClassId × FieldType)} {G : Heap} {av : List Value} : FrameBlind (mk_PZ D cl tys G av) := fun a U g mk q => ⟨q.1, q.2.1, va_K.moved (u := U) (U := U.calling g mk a) (Vm.Alike.refl U.vm) q.2.2.1, q.2.2.2.calling⟩
theorem mk_preVZ {s : State} {H : Heap} {D : va_G} {cl : List vw_C} {tys : List (ClassId × FieldType)} {As : List Value} {C : String} {b : Addr} (hK : va_K D cl tys s) (hZ : th_ZH s H) (hr : ∃ cellB : Cell, H[b]? = some cellB ∧ cellB.vm.isStatics = false ∧ s.vm.findClass C = some cellB.cls) : PreV s H C b (mk_PZ D cl tys H (.ref b :: As)) As := ⟨mk_blindZ, hr, fun _ hU hW => ⟨rfl, hU, va_K.moved hW.alike hK, th_ZA.moved hW hZ⟩⟩
theorem mk_preSZ {s : State} {H : Heap} {D : va_G} {cl : List vw_C} {tys : List (ClassId × FieldType)} {As : List Value} (hK : va_K D cl tys s) (hZ : th_ZH s H) : PreS s H (mk_PZ D cl tys H As) As := ⟨mk_blindZ, fun _ hU hW => ⟨rfl, hU, va_K.moved hW.alike hK, th_ZA.moved hW hZ⟩⟩
section
variable {p : Program} {l : Launch} {e : Env} {R : Room} {s : State} {m : MethodId} {args : Array Value} {below : List Frame} {meth : Method} {c : Code}
theorem th_ldc {own : String} {index : Nat} {H : Heap} {locs : List Loc} {cells slots : Nat} {Q : State → Prop} {cc : ByteArray} {pc : Nat} {ls : Array Slot} {rest : List Value} (hexec : p.tables.exec = Jvm.exec) (hb : c.code = cc) (hown : s.vm.findClass own = some m.cls) (hst : th_St own index s.vm)
    (hdg : decode cc pc = .ok (.ldc index, 2)) (k : ∀ b : Addr, W p l e R s m args below meth c H locs cells slots Q (F0 m (pc + 2) ls (.ref b :: rest))) : W p l e R s m args below meth c H locs cells slots Q (F0 m pc ls rest) := by
  intro T hT X
  obtain ⟨c0, k0, cf, i, a, h1, h2, h3, h4, h5⟩ := hst.moved X.warmed
  have hc0 : c0 = m.cls := Option.some.inj (h1.symm.trans ((X.warmed.alike.findClass _ _).trans hown))
  subst hc0
  obtain ⟨t, a1, b1⟩ := k a T hT X
  refine ⟨t, ?_, b1⟩
  jvm_step X.here [hexec, (by rw [hb]; exact hdg : decode c.code pc = .ok (.ldc index, 2)), ldc.wp_string (e := e) (s := T) (f := F0 m pc ls rest) X.here.top h2 h3 h4 h5]
  exact a1
theorem th_site {own N : String} {names : List String} {ix it ic pc : Nat} {cc : ByteArray} {ls : Array Slot} (hexec : p.tables.exec = Jvm.exec) (hb : c.code = cc) (htr : l.stackTraces = false) (hown : s.vm.findClass own = some m.cls) (hcls : Bundle.fit N = true) (hnames : ∀ n ∈ names, Bundle.fit n = true)
    (hlink : (Cond.classLink own ix N).before args s = true) (hini : (Cond.initialized N).before args s = true) (hat : ∀ a ∈ Bundle.ownAtoms own ic N names, a.before args s = true) (hstr : th_St own it s.vm)
    (hsize : ls.size = c.maxLocals) (htab : c.exceptionTable.toList = []) (h0 : decode cc pc = .ok (.new ix, 3)) (h3 : decode cc (pc + 3) = .ok (.dup, 1)) (h4 : decode cc (pc + 3 + 1) = .ok (.ldc it, 2)) (h6 : decode cc (pc + 3 + 1 + 2) = .ok (.invokespecial ic, 3)) (h9 : decode cc (pc + 3 + 1 + 2 + 3) = .ok (.athrow, 1))
    (hc : 1 ≤ R.cells) (hs : 6 ≤ R.slots) (hfr : names.length + 3 < R.frames) (hlo : 1 + (13 * (names.length + 1) + 42) ≤ R.locals) (hlocks : meth.locks = false) :
    W p l e R s m args below meth c s.heap [] 0 0 (TQ below N args s 1 6) (F0 m pc ls []) := by
  refine W.newc (n := 6) (g := F0 m pc ls []) hexec hb hown hlink (hat _ (by simp [Bundle.ownAtoms])) hini rfl h0 (by omega) (by omega) (fun cC kC q1 q2 _ _ => ?_)
  refine lv_dup (pc := pc + 3) (ls := ls) (rest := []) hexec hb h3 rfl ?_
  refine th_ldc hexec hb hown hstr h4 (fun b => ?_)
  exact th_ctor hexec hb htr hown hcls hnames hat q1 q2 (by simp) (Nat.le_refl _) hsize h6 h9 htab hfr hlo hlocks
end
/-! calls of static methods that have an exception table -/
abbrev wh (y : MethodName) (c : ByteArray) (n : Nat) (r : Option FieldType) (hh : List (Nat × Nat × Nat × Nat)) : List Cond := Cond.codeWith y c n r hh :: lw_g
section
variable {p : Program} {l : Launch} {e : Env} {R : Room} {s : State} {m : MethodId} {args : Array Value} {below : List Frame} {meth : Method} {c : Code} {T : State} {H : Heap} {locs : List Loc} {cells slots : Nat}
theorem th_callS (X : Stand p l e R s m args below meth c T locs cells slots) (hexec : p.tables.exec = Jvm.exec) {own : String} {index : Nat} {y : MethodName} {bytes : ByteArray} {maxL : Nat} {ret : Option FieldType} {hh : List (Nat × Nat × Nat × Nat)}
    (hown : s.vm.findClass own = some m.cls) (hlink : (Cond.methodLink own index y).before args s = true) (hstat : (Cond.static y).before args s = true) (hinit : (Cond.initialized y.cls).before args s = true)
    (hcode : (Cond.codeWith y bytes maxL ret hh).before args s = true) (hy : y.cls ≠ "java/lang/invoke/MethodHandle" ∧ y.cls ≠ "java/lang/invoke/VarHandle")
    {W : Nat} {Pre : Pt → Array Value → Prop} {Post : Pt → Array Value → Option Value → Pt → Prop} (hK : Back l R p e below s args y 3 W Pre Post)
    {g : JFrame} (hg : g.method = m) (hsize : g.locals.size = c.maxLocals) {argsL rest : List Value} (hlen : ∀ sig, parseMethodDescriptor y.desc = some sig → argsL.length = sig.parameters.length)
    (hstack : g.stack = argsL.reverse ++ rest) (hW : 2 * g.monitorRoom + (rest.map fun v => v.category).sum ≤ W) (hdg : decode c.code g.pc = .ok (.invokestatic index, 3))
    (hpre : ∀ vm₁, s.WarmedH vm₁ → Pre ⟨T.setVm vm₁, locs, cells, slots⟩ argsL.toArray) :
    ∃ (v : Option Value) (vm₁ : Vm) (B : Pt), s.WarmedH vm₁ ∧ Stand p l e R s m args below meth c B.U B.locs B.cells B.slots ∧ Post ⟨T.setVm vm₁, locs, cells, slots⟩ argsL.toArray v B ∧
      ∀ target, Steps p.tables e below (B.U.setTop { g with pc := g.pc + 3, stack := v.toList ++ rest }) target → Steps p.tables e below (T.setTop g) target := by
  obtain ⟨mk, methM, cM, hnamed, hmethM, -, -, -, -, -, -, hsigM⟩ := Cond.codeWith_spec hcode
  have hstatic : methM.isStatic = true := Cond.static_spec hnamed hmethM hstat
  obtain ⟨kP, hkP, -⟩ := className_of_methodNamed hnamed
  have hinitP : kP.init = .initialized := Cond.initialized_spec (findClass_of_methodNamed hnamed) hkP hinit
  obtain ⟨vm₁, X₁, hstep₁⟩ := X.invokestatic hexec hown hlink hnamed hmethM hstatic hkP hinitP hy (g := g) hg (argsL := argsL) (rest := rest) (hlen _ hsigM) hstack hdg
  obtain ⟨v, B, X', hpost, hsteps⟩ := hK m meth c ⟨T.setVm vm₁, locs, cells, slots⟩ { g with stack := rest } (.invokestatic index) mk argsL.toArray X₁ hg hsize hdg hW (X₁.named hnamed) (hpre vm₁ X₁.warmed)
  exact ⟨v, vm₁, B, X₁.warmed, X', hpost, fun target h => hstep₁ _ fun acts => by rw [doInvoke_state]; exact hsteps.trans h⟩
theorem th_runS {y : MethodName} {bytes cc : ByteArray} {maxL nL mc ms n index : Nat} {ret : Option FieldType} {hh : List (Nat × Nat × Nat × Nat)} {rm : Room} {Pc : Array Value → State → Prop} {Qc : Array Value → State → Outcome → State → Prop} {free : Addr → Prop} {own : String} {As rest : List Value} {g : JFrame}
    (hexec : p.tables.exec = Jvm.exec) (hb : c.code = cc) (hml : c.maxLocals = nL) (hown : s.vm.findClass own = some m.cls) (hgs : ∀ w ∈ lw_g, w.before args s = true) (hM : Met l y (wh y bytes maxL ret hh) rm Pc Qc mc ms free)
    (h1 : Cond.methodLink own index y ∈ lw_g) (h2 : Cond.static y ∈ lw_g) (h3 : Cond.initialized y.cls ∈ lw_g) (h4 : Cond.codeWith y bytes maxL ret hh ∈ lw_g) (hrc : rm.cells = mc) (hrs : rm.slots = ms)
    (hd : y.cls ≠ "java/lang/invoke/MethodHandle" ∧ y.cls ≠ "java/lang/invoke/VarHandle" ∧ (parseMethodDescriptor y.desc).map (fun d => d.parameters.length) = some n) (hR : rm.frames + 1 ≤ R.frames ∧ 8 + (maxL + 11) + rm.locals ≤ R.locals) (hp : PreS s H Pc As)
    (hg : g.method = m) (hn : As.length = n) (hsize : g.locals.size = nL) (hstack : g.stack = As.reverse ++ rest) (hW : 2 * g.monitorRoom + (rest.map fun v => v.category).sum ≤ 8) (hdg : decode cc g.pc = .ok (.invokestatic index, 3)) (hf : cells + mc ≤ R.cells ∧ slots + ms ≤ R.slots) :
    va_Run p l e R s m args below meth c H locs cells slots mc ms g rest (Qc As.toArray) (free) := by
  have hok : ∀ w ∈ wh y bytes maxL ret hh, ∀ (a' : Array Value) (U : State), s.WarmedH U.vm → w.before a' U = true := by
    intro w hw a' U hW
    have key : w ∈ lw_g := by
      rcases List.mem_cons.mp hw with rfl | h
      · exact h4
      · exact h
    exact word_at hW (good_of_word (List.mem_filter.mp key).2) (hgs w key)
  have hini : (Cond.initialized y.cls).before args s = true := hgs _ h3
  have hK : Back l R p e below s args y 3 8 (PreOf R mc ms Pc) (PostOf Qc mc ms free) :=
    va_backW (bytes := bytes) (maxL := maxL) (ret := ret) (hh := hh) hM hp.1 hrc hrs hR.1 hR.2 hok List.mem_cons_self (fun a' U hW => word_at hW (Or.inl (by first | rfl | simp [Cond.onTables, Cond.keeps, Cond.steady])) hini)
  intro T hT X
  obtain ⟨v, vm₁, ⟨U', l2, c2, s2⟩, hW₁, X', ⟨g', mk, t, L, e1, e2, hq, h1, hL, h2, h3⟩, st⟩ := th_callS X hexec (bytes := bytes) (maxL := maxL) (ret := ret) (hh := hh) hown (hgs _ h1) (hgs _ h2) hini (hgs _ h4) ⟨hd.1, hd.2.1⟩ hK hg (hsize.trans hml.symm) (argsL := As) (rest := rest)
    (fun sig h => by have h9 := hd.2.2; rw [h] at h9; exact hn.trans (Option.some.inj h9).symm) hstack hW (by rw [hb]; exact hdg) (fun vm₁ hW₁ => ⟨hf.1, hf.2, hp.2 (T.setVm vm₁) hT hW₁⟩)
  dsimp only [Pt.U, Pt.locs, Pt.cells, Pt.slots] at X' e1 e2 h1 h2 h3 st
  subst h1; subst h2; subst h3
  exact ⟨v, (T.setVm vm₁).calling g' mk As.toArray, t, U', L, hT, X', hL, e1, e2, hq, st⟩
end
theorem mk_gI {cx cy : Cond} (h : cy ∈ lw_g) : GoodIn (cx :: lw_g) (cy :: lw_g) := by
  intro w hw
  have key : w ∈ lw_g := by
    rcases List.mem_cons.mp hw with rfl | h1
    · exact h
    · exact h1
  exact ⟨List.mem_cons_of_mem _ key, good_of_word (List.mem_filter.mp key).2⟩
