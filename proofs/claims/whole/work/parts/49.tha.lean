/-! throw and catch: rows of ours over the library -/
section
variable {e : Env} {S : State} {f : JFrame} {a : Addr} {Q : Handler → Pre} {E : CtlPost} {d : Bool} {acts : List Action}
/-- the search at an entry whose class is perhaps not yet resolved -/
theorem th_go {x : ExceptionTableEntry} {t : List ExceptionTableEntry} {c : ClassId} {cell : Cell} {vm' : Vm} (hx : covers x f.pc = true) (h0 : x.catchType ≠ 0)
    (hg : (Jvm.resolveClass f.method.cls x.catchType).Gives e.toSetting S.vm (.ok c) vm') (hsz : vm'.classes.size ≤ S.vm.classes.size)
    (hcell : S.heap[a]? = some cell) (hobj : ∀ k, cell.vm ≠ .statics k) (hk : ∃ k, vm'.classes[cell.cls]? = some k) (hcl : ∃ k, vm'.classes[c]? = some k) (hfit : vm'.assignable cell.cls c = true) :
    wp (findHandler.go f a (x :: t)) Q E e d acts S ↔ Q (.found x.handlerPc) d acts (S.setVm vm') := by
  simp only [covers] at hx
  obtain ⟨ha, ht⟩ := hg.op (op := VmOp.resolveClass f.method.cls x.catchType) rfl
  simp [findHandler.go, hx, h0, ha, ht, hsz, hcell, hobj, hk, hcl, hfit, VmOp.dirties, VmOp.acts]
theorem th_step {r : List Frame} {meth : Method} {code : Code} {x : ExceptionTableEntry} {t : List ExceptionTableEntry} {c : ClassId} {cell : Cell} {vm' : Vm} (hm : S.vm.method? f.method = some meth) (hc : meth.code = some code) (htab : code.exceptionTable.toList = x :: t) (hx : covers x f.pc = true) (h0 : x.catchType ≠ 0)
    (hg : (Jvm.resolveClass f.method.cls x.catchType).Gives e.toSetting S.vm (.ok c) vm') (hsz : vm'.classes.size ≤ S.vm.classes.size)
    (hcell : S.heap[a]? = some cell) (hobj : ∀ k, cell.vm ≠ .statics k) (hk : ∃ k, vm'.classes[cell.cls]? = some k) (hcl : ∃ k, vm'.classes[c]? = some k) (hfit : vm'.assignable cell.cls c = true) :
    (stepThrowing e S a (.java f :: r)).1 = (S.setVm vm').setFrames (.java { f with pc := x.handlerPc, stack := [.ref a] } :: r) := by
  simp only [stepThrowing, searchFrame, vmDo]
  generalize hr : Sem.go _ e false [] S = res
  obtain ⟨as, rfl, ha⟩ := Sem.eq_ok_of hr (a := Handler.found x.handlerPc) (s' := S.setVm vm') (acts' := []) (by
    simp only [wp_bind', W.findHandler_eq hm hc, htab, th_go hx h0 hg hsz hcell hobj hk hcl hfit]
    simp)
  rfl
end
section
variable {p : Program} {l : Launch} {e : Env} {R : Room} {s : State} {m : MethodId} {args : Array Value} {below : List Frame} {meth : Method} {c : Code} {T : State} {locs : List Loc} {cells slots : Nat}
theorem th_catch (X : Stand p l e R s m args below meth c T locs cells slots) {own N : String} {sp ep hpc idx : Nat} (hown : s.vm.findClass own = some m.cls) (hlink : (Cond.classLink own idx N).before args s = true) (hcast : (Cond.castable N N).before args s = true)
    {a : Addr} {ce : Cell} (hce : T.heap[a]? = some ce) (hcls : s.vm.findClass N = some ce.cls) (hvm : ce.vm = .none) (htab : c.exceptionTable.toList = [⟨sp, ep, hpc, idx⟩]) (h0 : idx ≠ 0) {g : JFrame} (hg : g.method = m) (h1 : sp ≤ g.pc) (h2 : g.pc < ep) :
    ∃ vm' : Vm, Stand p l e R s m args below meth c (T.setVm vm') locs cells slots ∧
      ∀ target, Steps p.tables e below ((T.setVm vm').setTop { g with pc := hpc, stack := [.ref a] }) target → Steps p.tables e below ((T.setTop g).pushFrame (.throwing a)) target := by
  have hpl : e.platform.magicAccessors = ({} : Platform).magicAccessors := by rw [X.admits.platform]
  obtain ⟨cN, hfN, hcl⟩ := Cond.classLink_spec hown hlink e.platform hpl
  cases hcls.symm.trans hfN
  obtain ⟨c1, c2, hc1, hc2, hasg⟩ := Cond.castable_spec hcast
  cases hcls.symm.trans hc1
  cases hcls.symm.trans hc2
  obtain ⟨k, hk⟩ := Vm.classAt_of_findClass hfN
  obtain ⟨hg₁, hwarm₁, -⟩ := State.classEntry (e := e) X.warmed hcl
  generalize T.vm.noted m.cls idx (.cls ce.cls) = vm₁ at hg₁ hwarm₁
  have X₁ := X.noted hwarm₁
  refine ⟨vm₁, X₁, fun target hrest => ?_⟩
  subst hg
  have h := X.here
  obtain ⟨k₁, hk₁, -⟩ := hwarm₁.alike.2.2 _ _ hk
  have hsz : vm₁.classes.size ≤ T.vm.classes.size := by
    have e1 := X.warmed.alike.2.1
    have e2 := hwarm₁.alike.2.1
    omega
  obtain ⟨hgo, hw⟩ := h.throwing a
  refine Steps.head hgo hw ?_
  have hfit : vm₁.assignable ce.cls ce.cls = true := by rw [hwarm₁.alike.assignable]; exact hasg
  rw [stepThread_throwing (frames_entered h.top _),
    th_step (S := (T.setTop g).pushFrame (.throwing a)) (meth := meth) (code := c) (x := ⟨sp, ep, hpc, idx⟩) (t := []) (c := ce.cls) (cell := ce) (vm' := vm₁) (by rw [Stand.throwing_vm]; exact X.method') X.code htab (by simp [covers, h1, h2]) h0
      (by rw [Stand.throwing_vm]; exact hg₁) (by rw [Stand.throwing_vm]; exact hsz) (by rw [Stand.throwing_heap]; exact hce) (fun k q => by rw [hvm] at q; cases q) ⟨k₁, hk₁⟩ ⟨k₁, hk₁⟩ hfit]
  obtain ⟨g₀, hg0⟩ := Option.isSome_iff_exists.mp h.top
  obtain ⟨r, hr⟩ := State.topJava?_eq_some.mp hg0
  have hr' : (T.setVm vm₁).frames = .java g₀ :: r := hr
  rw [State.setTop_of_frames _ hr'] at hrest
  rw [State.pushFrame, State.setTop_of_frames _ hr]
  rw [hr]
  show Steps p.tables e below ((((T.setVm vm₁).setFrames (Frame.java g :: r)).setFrames (Frame.throwing a :: (T.setFrames (Frame.java g :: r)).frames)).setFrames _) target
  rw [State.setFrames_setFrames, State.setFrames_setFrames]
  exact hrest
end

/-- what a method that throws leaves behind: a new cell of the class N, all else as it was -/
def th_Q (N : String) (mc ms : Nat) : Array Value → State → Outcome → State → Prop := fun _ st o t =>
  ∃ (a : Addr) (ce : Cell), o = .threw a ∧ st.WarmedH t.vm ∧ st.sameButNew ({ t with vm := st.vm } : State) [] mc ms ∧ t.heap[a]? = some ce ∧ st.vm.findClass N = some ce.cls ∧ ce.vm = .none
def MetX (l : Launch) (y : MethodName) (ws : List Cond) (rm : Room) (Pc : Array Value → State → Prop) (N : String) (mc ms : Nat) : Prop :=
  MetFree l y (headSpec ws rm) Pc (fun _ _ _ _ _ => True) (th_Q N mc ms)
def TQ (below : List Frame) (N : String) (args : Array Value) (s : State) (mc ms : Nat) : State → Prop := fun t => ∃ o, t.status = .running ∧ Ended t below o ∧ th_Q N mc ms args s o t
theorem th_ofW {l : Launch} {y : MethodName} {ws ws' : List Cond} {rm : Room} {Pc : Array Value → State → Prop} {N : String} {mc ms : Nat} {cc : ByteArray} {maxL : Nat} {ret : Option FieldType}
    (hy : plainName y.cls = true) (hw : ws = Cond.code y cc maxL ret :: ws')
    (body : ∀ p e s m args below meth c s₁, BodyLoose p l y (headSpec ws rm) cc maxL ret e s m args below meth c s₁ → c.maxLocals = maxL → c.exceptionTable.toList = [] → Pc args s →
      W p l e (headSpec ws rm).room s m args below meth c s.heap [] 0 0 (TQ below N args s mc ms) (entryFrame m args maxL)) : MetX l y ws rm Pc N mc ms := by
  refine MetFree.of_bodyS (code := cc) (maxLocals := maxL) (ret := ret) hy ?_ ?_
  · intro args s m h hn
    obtain ⟨meth, c, h1, h2, h3, h4, h5, h6, -, -⟩ := Cond.code_spec hn (atoms_spec (ws := ws) h _ (by rw [hw]; exact List.mem_cons_self))
    exact ⟨meth, c, h1, h2, h3, h4, h5, h6⟩
  · intro p e s m args below meth c s₁ B hml hP _
    have hh0 : s₁.heap = s.heap := by rw [B.state]; rfl
    have X := Stand.of_body B
    have htab : c.exceptionTable.toList = [] := by
      obtain ⟨meth', c', h1, h2, -, -, -, -, h7, -⟩ := Cond.code_spec B.named (atoms_spec (ws := ws) B.pre _ (by rw [hw]; exact List.mem_cons_self))
      cases B.method.symm.trans h1
      cases X.code.symm.trans h2
      have h0 : c.exceptionTable.size = 0 := by simpa [Array.isEmpty] using h7
      exact List.eq_nil_of_length_eq_zero (by simpa using h0)
    obtain ⟨t, a1, o, b1, b2, b3⟩ := body p e s m args below meth c s₁ B hml htab hP s₁ hh0 X
    exact ⟨t, o, a1, b1, b2, b3⟩
theorem th_same {s t : State} {mc ms : Nat} (h : s.sameButNew t [] mc ms) : s.heap.size ≤ t.heap.size ∧ ∀ q, q < s.heap.size → t.heap[q]? = s.heap[q]? := by
  refine ⟨h.2.1, fun q hq => ?_⟩
  obtain ⟨c', h1, h2, h3, h4⟩ := h.2.2.2.2.2 q s.heap[q] (Array.getElem?_eq_getElem hq)
  rw [h1, Array.getElem?_eq_getElem hq, h2]
  congr 1
  have : c'.slots = s.heap[q].slots := Array.ext_getElem? fun i => h4 i (by simp)
  rw [this]
section
variable {p : Program} {l : Launch} {e : Env} {R : Room} {s : State} {m : MethodId} {args : Array Value} {below : List Frame} {meth : Method} {c : Code} {U : State} {H : Heap} {locs : List Loc} {cells slots : Nat} {Q : State → Prop}
  {y : MethodName} {ws : List Cond} {rm : Room} {Pc : Array Value → State → Prop} {N : String} {mc ms maxL : Nat} {bytes : ByteArray} {ret : Option FieldType}
theorem th_into (X : Stand p l e R s m args below meth c U locs cells slots) (hM : MetX l y ws rm Pc N mc ms) (hrc : rm.cells = mc) (hrs : rm.slots = ms) (hfr : rm.frames + 1 ≤ R.frames) (hlo : 8 + (maxL + 11) + rm.locals ≤ R.locals) {a0 : Array Value}
    (hpre : ∀ w ∈ ws, w.before a0 U = true) (hcode : (Cond.code y bytes maxL ret).before a0 U = true) (hini : (Cond.initialized y.cls).before a0 U = true) (hf : cells + mc ≤ R.cells ∧ slots + ms ≤ R.slots)
    {g : JFrame} (hg : g.method = m) (hsize : g.locals.size = c.maxLocals) {ig : Instr} {len : Nat} (hdg : decode c.code g.pc = .ok (ig, len)) (hW : 2 * g.monitorRoom + (g.stack.map fun v => v.category).sum ≤ 8) {mk : MethodId} (hn : U.methodNamed? y = some mk) (hP : Pc a0 (U.calling g mk a0)) :
    ∃ (a : Addr) (ce : Cell) (T' : State), Stand p l e R s m args below meth c T' locs (cells + mc) (slots + ms) ∧ U.heap.size ≤ T'.heap.size ∧ (∀ q, q < U.heap.size → T'.heap[q]? = U.heap[q]?) ∧ T'.heap[a]? = some ce ∧ U.vm.findClass N = some ce.cls ∧ ce.vm = .none ∧
      Steps p.tables e below (doInvoke e (U.setTop g) [] mk a0).1 ((T'.setTop g).pushFrame (.throwing a)) := by
  obtain ⟨methY, cY, hmY, hcY, -, hlY, -, -, -, -⟩ := Cond.code_spec hn hcode
  obtain ⟨kY, hkY, -⟩ := className_of_methodNamed hn
  have hinitY : kY.init = .initialized := Cond.initialized_spec (findClass_of_methodNamed hn) hkY hini
  have h : At U g.method c below := by rw [hg]; exact X.here
  have happ : (headSpec ws rm).appliesLoose y e.platform (U.calling g mk a0) = true :=
    Spec.appliesLoose_calling (g := g) h hdg hn hkY hinitY
      (X.room_calling (g := g) (R' := (headSpec ws rm).room) hsize hmY hcY hfr (by rw [hlY]; show _ + (headSpec ws rm).room.locals ≤ _; have : (headSpec ws rm).room.locals = rm.locals := rfl; omega) (by rw [show (headSpec ws rm).room.cells = mc from hrc]; exact hf.1) (by rw [show (headSpec ws rm).room.slots = ms from hrs]; exact hf.2)) (atoms_intro hpre)
  obtain ⟨mid, hmid⟩ := h.above
  have hfr' : (U.setTop g).frames = (.java g :: mid) ++ below := by rw [State.frames_setTop' g h.top, hmid]; rfl
  obtain ⟨o, s₂, hsteps, -, hend, hq⟩ := Steps.callFree hM p X.admits X.cas X.clock (acts := []) hfr' happ hP trivial
  have hq' : th_Q N mc ms a0 (U.calling g mk a0) o s₂ := hq
  rw [State.frames_setTop' g h.top] at hend
  obtain ⟨a, ce, rfl, hW₂, hsm, hce, hfc, hvm⟩ := hq'
  have hold := th_same hsm
  obtain ⟨e2, q2, q3, q4, q5, q6⟩ := id hsm
  have e3 : s₂ = ({ (U.calling g mk a0).setFrames s₂.frames with heap := s₂.heap, slotsUsed := s₂.slotsUsed } : State).setVm s₂.vm := by
    have : s₂ = ({ s₂ with vm := (U.calling g mk a0).vm } : State).setVm s₂.vm := rfl
    rw [e2] at this
    exact this
  have hf₂ : s₂.frames = .throwing a :: .java g :: U.frames.tail := hend
  have hW' : U.WarmedH s₂.vm := hW₂
  obtain ⟨g₀, hg0⟩ := Option.isSome_iff_exists.mp h.top
  obtain ⟨r, hr⟩ := State.topJava?_eq_some.mp hg0
  have hs₂ : s₂ = ((({ U with heap := s₂.heap, slotsUsed := s₂.slotsUsed } : State).setVm s₂.vm).setTop g).pushFrame (.throwing a) := by
    have hr' : (({ U with heap := s₂.heap, slotsUsed := s₂.slotsUsed } : State).setVm s₂.vm).frames = .java g₀ :: r := hr
    refine e3.trans ?_
    rw [hf₂, State.calling_eq h.top, State.setFrames_setFrames, State.pushFrame, State.frames_setTop _ hr', State.setTop_of_frames _ hr', State.setFrames_setFrames, hr]
    rfl
  have hsame : U.sameButNew ({ U with heap := s₂.heap, slotsUsed := s₂.slotsUsed } : State) [] mc ms := by
    refine ⟨?_, q2, q3, q4, q5, q6⟩
    obtain ⟨t, ht, -⟩ := State.frames_cons hr
    show ({ U with heap := s₂.heap, slotsUsed := s₂.slotsUsed } : State) = { U.setFrames U.frames with heap := s₂.heap, slotsUsed := s₂.slotsUsed }
    rw [State.setFrames_self ht]
  subst hg
  refine ⟨a, ce, (({ U with heap := s₂.heap, slotsUsed := s₂.slotsUsed } : State).setVm s₂.vm),
    ⟨X.admits, X.cas, X.clock, X.frames, X.room, X.hears, X.method, X.code, (X.here.setHeapUsed s₂.heap s₂.slotsUsed).setVm hW'.alike, X.tail, State.WarmedH.trans X.warmed hW', X.limits, X.bytes, ?_⟩, hold.1, hold.2, hce, hfc, hvm, ?_⟩
  · have := X.same.trans (hsame.setVm s.vm)
    rw [List.append_nil] at this
    exact this
  · rw [← hs₂]
    exact hsteps
theorem th_callV {T : State} {own C : String} {index n : Nat} {Ts : List Cond} {cc : ByteArray} {nL : Nat} {b : Addr} {As rest : List Value} {g : JFrame} (S : CallFix p m c cc nL s args Ts own) (hM : MetX l y ws rm Pc N mc ms) (cw : CallW R s args own C index y bytes maxL ret ws rm mc ms n) (hp : PreV s H C b Pc As)
    (hg : g.method = m) (hn : As.length = n) (hsize : g.locals.size = nL) (hstack : g.stack = As.reverse ++ .ref b :: rest) (hW : 2 * g.monitorRoom + (rest.map fun v => v.category).sum ≤ 8) (hdg : decode cc g.pc = .ok (.invokevirtual index, 3)) (hf : cells + mc ≤ R.cells ∧ slots + ms ≤ R.slots)
    (hT : T.heap = H) (X : Stand p l e R s m args below meth c T locs cells slots) :
    ∃ (a : Addr) (ce : Cell) (T' : State), Stand p l e R s m args below meth c T' locs (cells + mc) (slots + ms) ∧ H.size ≤ T'.heap.size ∧ (∀ q, q < H.size → T'.heap[q]? = H[q]?) ∧ T'.heap[a]? = some ce ∧ s.vm.findClass N = some ce.cls ∧ ce.vm = .none ∧
      ∀ target, Steps p.tables e below ((T'.setTop { g with stack := rest }).pushFrame (.throwing a)) target → Steps p.tables e below (T.setTop g) target := by
  obtain ⟨⟨hrc, hrs, hfr, hlo, hws, hcw, hcode, hini, hy, hlen, hl⟩, hin, hse⟩ := cw
  obtain ⟨hx, hb, hml, ho, -⟩ := S
  obtain ⟨hblind, ⟨cellB, hcB, hoB, hclB⟩, hPc⟩ := hp
  subst hT; subst hb
  obtain ⟨mk, methM, hnamed, hmethM, hstM, habM⟩ := Cond.instanceMethod_spec hin
  obtain ⟨methM', cM, hmethM', -, -, -, -, -, -, hsigM⟩ := Cond.code_spec hnamed hcode
  cases hmethM.symm.trans hmethM'
  obtain ⟨c2, r2, m2, q1, q2, q3, q4, kP, hkP, hkPi⟩ := Cond.selects_spec hse
  cases hclB.symm.trans q1
  cases (State.methodFound?_of_named hnamed hy).symm.trans q2
  cases hnamed.symm.trans q3
  have hselP : selectMethod e.platform s.vm cellB.cls mk = .method mk := by rw [Launch.admits_selectMethod X.admits]; exact q4
  obtain ⟨vm₁, X₁, hstep₁⟩ := X.invokevirtual hx ho hl hnamed hmethM hstM hkP hkPi hy (a := b) (cell := cellB) hcB
    (fun z h => by rw [h] at hoB; cases hoB) hselP hmethM habM hkP hkPi (g := g) hg (argsL := As) (rest := rest) (hn.trans (hlen _ hsigM)) hstack hdg
  have hW₁ := X₁.warmed
  obtain ⟨a, ce, T', X', z1, z2, z3, z4, z5, st⟩ := th_into (g := { g with stack := rest }) (a0 := (Value.ref b :: As).toArray) (mk := mk) X₁ hM hrc hrs hfr hlo (fun w hw => hws w hw _ _ hW₁) (hws _ hcw _ _ hW₁)
    (word_at hW₁ (Or.inl (by first | rfl | simp [Cond.onTables, Cond.keeps, Cond.steady])) hini) hf hg (hsize.trans hml.symm) hdg hW (X₁.named hnamed) (hblind _ _ _ _ (hPc (T.setVm vm₁) rfl hW₁))
  exact ⟨a, ce, T', X', z1, z2, z3, by rw [← z4]; exact (hW₁.alike.findClass _ _).symm, z5, fun target h => hstep₁ _ fun acts => by rw [doInvoke_state]; exact st.trans h⟩
/-- a call that throws, inside a range that catches it: the handler goes on with one cell more -/
theorem th_catchV {own C : String} {index n idx sp ep hpc : Nat} {Ts : List Cond} {cc : ByteArray} {nL pc : Nat} {ls : Array Slot} {b : Addr} {As rest : List Value} (S : CallFix p m c cc nL s args Ts own) (hM : MetX l y ws rm Pc N mc ms) (cw : CallW R s args own C index y bytes maxL ret ws rm mc ms n) (hp : PreV s H C b Pc As)
    (hn : As.length = n) (hsize : ls.size = nL) (hW : (rest.map fun v => v.category).sum ≤ 8) (hdg : decode cc pc = .ok (.invokevirtual index, 3)) (hf : cells + mc ≤ R.cells ∧ slots + ms ≤ R.slots)
    (hlink : (Cond.classLink own idx N).before args s = true) (hcast : (Cond.castable N N).before args s = true) (htab : c.exceptionTable.toList = [⟨sp, ep, hpc, idx⟩]) (h0 : idx ≠ 0) (h1 : sp ≤ pc) (h2 : pc < ep)
    (kk : ∀ (a : Addr) (H1 : Heap), H.size ≤ H1.size → (∀ q, q < H.size → H1[q]? = H[q]?) → W p l e R s m args below meth c H1 locs (cells + mc) (slots + ms) Q (F0 m hpc ls [.ref a])) :
    W p l e R s m args below meth c H locs cells slots Q (F0 m pc ls (As.reverse ++ .ref b :: rest)) := by
  intro T hT X
  obtain ⟨a, ce, T', X', z1, z2, z3, z4, z5, st⟩ := th_callV (g := F0 m pc ls (As.reverse ++ .ref b :: rest)) (rest := rest) S hM cw hp rfl hn hsize rfl (by simpa using hW) hdg hf hT X
  obtain ⟨vm', X'', st2⟩ := th_catch X' S.2.2.2.1 hlink hcast z3 z4 z5 htab h0 (g := F0 m pc ls rest) rfl h1 h2
  obtain ⟨t, a1, b1⟩ := kk a T'.heap z1 z2 (T'.setVm vm') rfl X''
  exact ⟨t, st t (st2 t a1), b1⟩
theorem th_ldcS {own text : String} {index : Nat} {b : Addr} {cc : ByteArray} {pc : Nat} {ls : Array Slot} {rest : List Value} (hexec : p.tables.exec = Jvm.exec) (hb : c.code = cc) (hown : s.vm.findClass own = some m.cls) (hconst : (Cond.stringRef own index text).before args s = true) (hev : (Term.string own index).eval args s none [] s = some (.ref b))
    (hdg : decode cc pc = .ok (.ldc index, 2)) (k : W p l e R s m args below meth c H locs cells slots Q (F0 m (pc + 2) ls (.ref b :: rest))) : W p l e R s m args below meth c H locs cells slots Q (F0 m pc ls rest) := by
  intro T hT X
  obtain ⟨t, a1, b1⟩ := k T hT X
  exact ⟨t, X.ldcString hexec hown hconst hev (g := F0 m pc ls rest) rfl (by rw [hb]; exact hdg) t a1, b1⟩
theorem th_ctor {own : String} {names : List String} {ic : Nat} {cc : ByteArray} {pc : Nat} {ls : Array Slot} {rest : List Value} (hexec : p.tables.exec = Jvm.exec) (hb : c.code = cc) (htr : l.stackTraces = false) (hown : s.vm.findClass own = some m.cls) (hcls : Bundle.fit N = true) (hnames : ∀ n ∈ names, Bundle.fit n = true)
    (hat : ∀ a ∈ Bundle.ownAtoms own ic N names, a.before args s = true) {a b : Addr} {cX : ClassId} {kX : Class} (hfX : s.vm.findClass N = some cX) (hkX : s.vm.classes[cX]? = some kX) (hcell : H[a]? = some { cls := cX, slots := kX.instanceTypes.map defaultValue, vm := .none }) (hnew : s.heap.size ≤ a)
    (hsize : ls.size = c.maxLocals) (h6 : decode cc pc = .ok (.invokespecial ic, 3)) (h9 : decode cc (pc + 3) = .ok (.athrow, 1)) (htab : c.exceptionTable.toList = []) (hfr : names.length + 3 < R.frames) (hlo : ((Value.ref a :: rest).map fun v => v.category).sum + (13 * (names.length + 1) + 42) ≤ R.locals) (hlocks : meth.locks = false) :
    W p l e R s m args below meth c H [] cells slots (TQ below N args s cells slots) (F0 m pc ls (.ref b :: .ref a :: .ref a :: rest)) := by
  intro T hT X
  obtain ⟨U, st, hrun, hend, hW, hsame, ce, hce, hoc⟩ := X.ctorThrowS hexec (by rw [X.admits.platform]; exact htr) hown hcls hnames hat (fun _ h => nomatch h) hfX hkX (by rw [hT]; exact hcell) hnew (msg := .ref b) rfl (g := F0 m pc ls (.ref b :: .ref a :: .ref a :: rest)) rfl hsize rfl rfl (rest := rest) rfl
    (by rw [hb]; exact h6) (by rw [hb]; exact h9) (by rw [htab]; intro x hx; cases hx) hfr (by simpa using hlo) hlocks
  exact ⟨U, st, .threw a, hrun, hend, a, ce, rfl, hW, hsame, hce, hoc.cls, hoc.vm⟩
end
