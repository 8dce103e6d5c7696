/-! a method that throws, and one that catches -/
def TQ (below : List Frame) (Qt : Array Value → State → Addr → State → Prop) (a : Array Value) (s : State) (mc ms : Nat) : State → Prop := fun t => ∃ x : Addr, t.status = .running ∧ Ended t below (.threw x) ∧ Qt a s x t ∧ s.WarmedH t.vm ∧ s.sameButNew ({ t with vm := s.vm } : State) [] mc ms
def MetT (l : Launch) (y : MethodName) (ws : List Cond) (rm : Room) (Pc : Array Value → State → Prop) (Qt : Array Value → State → Addr → State → Prop) (mc ms : Nat) : Prop :=
  MetFree l y (headSpec ws rm) Pc (fun _ _ _ _ _ => True) (fun a st o t => ∃ x : Addr, o = .threw x ∧ Qt a st x t ∧ st.WarmedH t.vm ∧ st.sameButNew ({ t with vm := st.vm } : State) [] mc ms)
theorem tm_ofW {l : Launch} {y : MethodName} {ws ws' : List Cond} {rm : Room} {Pc : Array Value → State → Prop} {Qt : Array Value → State → Addr → State → Prop} {mc ms : Nat} {cc : ByteArray} {maxL : Nat} {ret : Option FieldType}
    (hy : plainName y.cls = true) (hw : ws = Cond.code y cc maxL ret :: ws')
    (body : ∀ p e s m args below meth c s₁, BodyLoose p l y (headSpec ws rm) cc maxL ret e s m args below meth c s₁ → c.maxLocals = maxL → c.exceptionTable.isEmpty = true → Pc args s →
      W p l e (headSpec ws rm).room s m args below meth c s.heap [] 0 0 (TQ below Qt args s mc ms) (entryFrame m args maxL)) : MetT l y ws rm Pc Qt mc ms := by
  refine MetFree.of_bodyS (code := cc) (maxLocals := maxL) (ret := ret) hy ?_ ?_
  · intro args s m h hn
    obtain ⟨meth, c, h1, h2, h3, h4, h5, h6, -, -⟩ := Cond.code_spec hn (atoms_spec (ws := ws) h _ (by rw [hw]; exact List.mem_cons_self))
    exact ⟨meth, c, h1, h2, h3, h4, h5, h6⟩
  · intro p e s m args below meth c s₁ B hml hP _
    have hh0 : s₁.heap = s.heap := by rw [B.state]; rfl
    have hne := B.noHandlers (atoms_spec (ws := ws) B.pre _ (by rw [hw]; exact List.mem_cons_self))
    obtain ⟨t, a1, x, b1, b2, b3, b4, b5⟩ := body p e s m args below meth c s₁ B hml hne hP s₁ hh0 (Stand.of_body B)
    exact ⟨t, .threw x, a1, b1, b2, x, rfl, b3, b4, b5⟩
theorem hp_old {s t : State} {mc ms : Nat} (h : s.sameButNew ({ t with vm := s.vm } : State) [] mc ms) : s.heap.size ≤ t.heap.size ∧ ∀ q : Nat, q < s.heap.size → t.heap[q]? = s.heap[q]? := by
  refine ⟨h.2.1, fun q hq => ?_⟩
  have hc := Array.getElem?_eq_getElem hq
  exact (h.old_cell hc).trans hc.symm
theorem Wd.kp {D : va_G} {B0 : Nat} {en : en_T} {H H1 : Heap} (h : Wd D B0 en H) (hk : ∀ q : Nat, q < H.size → H1[q]? = H[q]?) : Wd D B0 en H1 := by
  obtain ⟨ws, hP, hD, hm, hi⟩ := h
  exact ⟨ws, fun k q hq => (hP k q hq).kept (hk q.1 (hP k q hq).lt), hD, hm, hi⟩
/-! the throw itself -/
theorem w_thr {p : Program} {l : Launch} {e : Env} {R : Room} {s : State} {m : MethodId} {args : Array Value} {below : List Frame} {meth : Method} {c : Code} {H : Heap} {cells slots : Nat} {Qt : Array Value → State → Addr → State → Prop} {cc : ByteArray} {pc : Nat} {ls : Array Slot} (hx : p.tables.exec = Jvm.exec) (hb : c.code = cc) (hml : c.maxLocals = ls.size) (hlt : l.stackTraces = false) (hne : c.exceptionTable.isEmpty = true) (hlocks : meth.locks = false) {own cls : String} {names : List String} {ic : Nat}
    (hown : s.vm.findClass own = some m.cls) (hcls : Bundle.fit cls = true) (hnames : ∀ n ∈ names, Bundle.fit n = true) (hat : ∀ a ∈ Bundle.ownAtoms own ic cls names, a.before args s = true)
    {a : Addr} {q : Nat} {cX : ClassId} {kX : Class} (hf : s.vm.findClass cls = some cX) (hk : s.vm.classes[cX]? = some kX) (hcell : H[a]? = some (freshCell cX kX)) (hnew : s.heap.size ≤ a)
    (hd6 : decode cc pc = .ok (.invokespecial ic, 3)) (hd9 : decode cc (pc + 3) = .ok (.athrow, 1)) (hRf : names.length + 3 < R.frames) (hRl : 1 + (13 * (names.length + 1) + 42) ≤ R.locals)
    (hq : ∀ t : State, s.WarmedH t.vm → s.sameButNew ({ t with vm := s.vm } : State) [] cells slots → (∃ ce : Cell, t.heap[a]? = some ce ∧ ce.cls = cX ∧ ce.vm = .none) → Qt args s a t) :
    W p l e R s m args below meth c H [] cells slots (TQ below Qt args s cells slots) (F0 m pc ls [.ref q, .ref a, .ref a]) := by
  intro T hT X
  have h9 : e.platform.stackTraces = l.stackTraces := by rw [X.admits.platform]
  have hem : c.exceptionTable.toList = [] := by
    have h0 : c.exceptionTable.size = 0 := by simpa [Array.isEmpty] using hne
    exact List.eq_nil_of_length_eq_zero (by simpa using h0)
  have h8 : 2 * (F0 m pc ls [.ref q, .ref a, .ref a]).monitorRoom + ((Value.ref a :: ([] : List Value)).map fun v => v.category).sum + (13 * (names.length + 1) + 42) ≤ R.locals := by
    show 2 * 0 + (1 + 0) + (13 * (names.length + 1) + 42) ≤ R.locals
    omega
  obtain ⟨U, st, hrun, hend, hW, hsame, ce, hce, hoc⟩ := X.ctorThrowS hx (h9.trans hlt) hown hcls hnames hat (fun x hx => by cases hx) hf hk (by rw [hT]; exact hcell) hnew (msg := .ref q) rfl (g := F0 m pc ls [.ref q, .ref a, .ref a]) rfl hml.symm rfl rfl (rest := []) rfl (by rw [hb]; exact hd6) (by rw [hb]; exact hd9) (fun x hx => by rw [hem] at hx; cases hx) hRf h8 hlocks
  refine ⟨U, st, a, hrun, hend, hq U hW hsame ⟨ce, hce, ?_, hoc.vm⟩, hW, hsame⟩
  exact Option.some.inj (hoc.cls.symm.trans hf)
/-! it is caught -/
theorem st_caught {tb : Tables} {e : Env} {s target : State} {g : JFrame} {c : Code} {below : List Frame} {a : Addr} (h : At s g.method c below) {pc : Nat} {vm' : Vm}
    (hfind : ∀ (Q : Handler → Pre) (E : CtlPost) (d : Bool) (acts : List Action), wp (findHandler g a) Q E e d acts ((s.setTop g).pushFrame (.throwing a)) ↔ Q (.found pc) d acts (((s.setTop g).pushFrame (.throwing a)).setVm vm'))
    (hrest : Steps tb e below ((s.setVm vm').setTop { g with pc := pc, stack := [.ref a] }) target) : Steps tb e below ((s.setTop g).pushFrame (.throwing a)) target := by
  obtain ⟨hgo, hw⟩ := h.throwing a
  refine Steps.head hgo hw ?_
  have key : ∀ r : List Frame, (stepThrowing e ((s.setTop g).pushFrame (.throwing a)) a (.java g :: r)).Is ((((s.setTop g).pushFrame (.throwing a)).setVm vm').setFrames (.java { g with pc := pc, stack := [.ref a] } :: r)) [] := by
    intro r
    simp only [stepThrowing, searchFrame, vmDo]
    generalize hr : Sem.go _ e false [] _ = res
    obtain ⟨as, rfl, ha⟩ := Sem.eq_ok_of hr (a := Handler.found pc) (s' := ((s.setTop g).pushFrame (.throwing a)).setVm vm') (acts' := []) (by simp [hfind _ _ _ _])
    exact ⟨rfl, ha⟩
  rw [stepThread_throwing (frames_entered h.top _), (key _).1]
  obtain ⟨g₀, hg⟩ := Option.isSome_iff_exists.mp h.top
  obtain ⟨r, hr⟩ := State.topJava?_eq_some.mp hg
  have hr' : (s.setVm vm').frames = .java g₀ :: r := hr
  have hcm : ∀ (u : State) (fs : List Frame) (v : Vm), (u.setFrames fs).setVm v = (u.setVm v).setFrames fs := fun _ _ _ => rfl
  rw [State.pushFrame, hcm, State.setFrames_setFrames, State.setTop_of_frames _ hr, hcm, State.setFrames_setFrames]
  rw [State.setTop_of_frames _ hr'] at hrest
  rw [hr]
  exact hrest
theorem fh_cold {e : Env} {s : State} {f : JFrame} {a : Addr} {meth : Method} {code : Code} (hm : s.vm.method? f.method = some meth) (hc : meth.code = some code) {x : ExceptionTableEntry} (htb : code.exceptionTable.toList = [x]) (hx : covers x f.pc = true) (h0 : x.catchType ≠ 0) {cX : ClassId} {vm' : Vm}
    (hg : (resolveClass f.method.cls x.catchType).Gives e.toSetting s.vm (.ok cX) vm') (hsz : vm'.classes.size ≤ s.vm.classes.size) {cell : Cell} (hcell : s.heap[a]? = some cell) (hobj : ∀ k, cell.vm ≠ .statics k) (hk : ∃ k, vm'.classes[cell.cls]? = some k) (hcx : ∃ k, vm'.classes[cX]? = some k) (hfit : vm'.assignable cell.cls cX = true)
    (Q : Handler → Pre) (E : CtlPost) (d : Bool) (acts : List Action) : wp (findHandler f a) Q E e d acts s ↔ Q (.found x.handlerPc) d acts (s.setVm vm') := by
  rw [W.findHandler_eq hm hc, htb]
  obtain ⟨ha, ht⟩ := hg.op (op := VmOp.resolveClass f.method.cls x.catchType) rfl
  simp only [covers] at hx
  simp [findHandler.go, hx, h0, ha, ht, hsz, hcell, hobj, hk, hcx, hfit, VmOp.dirties, VmOp.acts]
/-! a call of a method that throws, in a method that catches -/
theorem w_callT {p : Program} {l : Launch} {e : Env} {R : Room} {s : State} {m : MethodId} {args : Array Value} {below : List Frame} {meth : Method} {c : Code} {H : Heap} {locs : List Loc} {cells slots : Nat} {Q : State → Prop} {cc : ByteArray} {nL : Nat} {Ts : List Cond} {own C : String} {index : Nat} {y : MethodName} {bytes : ByteArray} {maxL : Nat} {ret : Option FieldType} {ws : List Cond} {rm : Room} {mc ms n : Nat} {Pc : Array Value → State → Prop} {Qt : Array Value → State → Addr → State → Prop} {b : Addr} {As rest : List Value} {pc : Nat} {ls : Array Slot} {nm : String} {pe ph ct : Nat} {cX : ClassId}
    (S : CallFix p m c cc nL s args Ts own) (hM : MetT l y ws rm Pc Qt mc ms) (cw : CallW R s args own C index y bytes maxL ret ws rm mc ms n) (hp : PreV s H C b Pc As)
    (hn : As.length = n) (hsize : ls.size = nL) (hW : (rest.map fun v => v.category).sum ≤ 8) (hdg : decode cc pc = .ok (.invokevirtual index, 3)) (hf : cells + mc ≤ R.cells ∧ slots + ms ≤ R.slots)
    (htab : c.exceptionTable.toList.map (fun h => (h.startPc, h.endPc, h.handlerPc, h.catchType)) = [(0, pe, ph, ct)]) (hpc : pc < pe) (hct : ct ≠ 0) (hlk : (Cond.classLink own ct nm).before args s = true) (hcX : s.vm.findClass nm = some cX)
    (hnm : ∀ (v : Array Value) (st : State) (x : Addr) (t : State), Qt v st x t → ∃ ce : Cell, t.heap[x]? = some ce ∧ ce.cls = cX ∧ ce.vm = .none)
    (kk : ∀ (x : Addr) (st t : State), st.heap = H → Qt (Value.ref b :: As).toArray st x t → W p l e R s m args below meth c t.heap locs (cells + mc) (slots + ms) Q (F0 m ph ls [.ref x])) :
    W p l e R s m args below meth c H locs cells slots Q (F0 m pc ls (As.reverse ++ .ref b :: rest)) := by
  intro T hT X
  obtain ⟨⟨hrc, hrs, hfr, hlo, hws, hcw, hcode, hini, hy, hlen, hl⟩, hin, hse⟩ := cw
  obtain ⟨hx, hb, hml, ho, -⟩ := S
  obtain ⟨hbl, ⟨cellB, hcB, hoB, hclB⟩, hPc⟩ := hp
  obtain ⟨mk, methM, hnamed, hmethM, hstM, habM⟩ := Cond.instanceMethod_spec hin
  obtain ⟨methM', cM, hmethM', -, -, -, -, -, -, hsigM⟩ := Cond.code_spec hnamed hcode
  cases hmethM.symm.trans hmethM'
  obtain ⟨c2, r2, m2, q1, q2, q3, q4, kP, hkP, hkPi⟩ := Cond.selects_spec hse
  cases hclB.symm.trans q1
  cases (State.methodFound?_of_named hnamed hy).symm.trans q2
  cases hnamed.symm.trans q3
  have hselP : selectMethod e.platform s.vm cellB.cls mk = .method mk := by rw [Launch.admits_selectMethod X.admits]; exact q4
  obtain ⟨vm₁, X₁, hstep₁⟩ := X.invokevirtual hx ho hl hnamed hmethM hstM hkP hkPi hy (a := b) (cell := cellB) (by rw [hT]; exact hcB) (fun z h => by rw [h] at hoB; cases hoB) hselP hmethM habM hkP hkPi (g := F0 m pc ls (As.reverse ++ .ref b :: rest)) rfl (argsL := As) (rest := rest) (hn.trans (hlen _ hsigM)) rfl (by rw [hb]; exact hdg)
  obtain ⟨g1, hg1⟩ : ∃ x : JFrame, x = F0 m pc ls rest := ⟨_, rfl⟩
  obtain ⟨A, hA⟩ : ∃ x : Array Value, x = (Value.ref b :: As).toArray := ⟨_, rfl⟩
  have hm1 : g1.method = m := by rw [hg1]
  have h : At (T.setVm vm₁) g1.method c below := by rw [hm1]; exact X₁.here
  have hn₁ := X₁.named hnamed
  obtain ⟨methY, cY, hmY, hcY, -, hlY, -, -, -, -⟩ := Cond.code_spec hn₁ (hws _ hcw A (T.setVm vm₁) X₁.warmed)
  obtain ⟨kY, hkY, -⟩ := className_of_methodNamed hn₁
  have hinitY : kY.init = .initialized := Cond.initialized_spec (findClass_of_methodNamed hn₁) hkY (word_at (a' := A) (U := T.setVm vm₁) X₁.warmed (Or.inl (by first | rfl | simp [Cond.onTables, Cond.keeps, Cond.steady])) hini)
  have hdg1 : decode c.code g1.pc = .ok (.invokevirtual index, 3) := by rw [hg1, hb]; exact hdg
  have hroom : ((T.setVm vm₁).calling g1 mk A).hasRoom e.platform (headSpec ws rm).room = true := X₁.room_calling (g := g1) (R' := (headSpec ws rm).room) (by rw [hg1]; exact hsize.trans hml.symm) hmY hcY hfr (by
    have h8 : 2 * g1.monitorRoom + (g1.stack.map fun v => v.category).sum = (rest.map fun v => v.category).sum := by rw [hg1]; show 2 * 0 + (rest.map fun v => v.category).sum = _; rw [Nat.mul_zero, Nat.zero_add]
    rw [hlY, h8]
    show _ + (maxL + 11) + rm.locals ≤ R.locals
    omega) (by show cells + rm.cells ≤ R.cells; omega) (by show slots + rm.slots ≤ R.slots; omega)
  have happ : (headSpec ws rm).appliesLoose y e.platform ((T.setVm vm₁).calling g1 mk A) = true :=
    Spec.appliesLoose_calling (g := g1) h hdg1 hn₁ hkY hinitY hroom (atoms_intro fun w hw => hws w hw _ _ X₁.warmed)
  obtain ⟨mid, hmid⟩ := h.above
  have hfr' : ((T.setVm vm₁).setTop g1).frames = (.java g1 :: mid) ++ below := by rw [State.frames_setTop' g1 h.top, hmid]; rfl
  obtain ⟨o, s₂, hsteps, -, hend, x, rfl, hQ, hW₂, hsame⟩ := Steps.callFree hM p X₁.admits X₁.cas X₁.clock (acts := []) hfr' happ (hbl _ _ _ _ (by rw [hA]; exact hPc (T.setVm vm₁) hT X₁.warmed)) trivial
  rw [State.frames_setTop' g1 h.top, X₁.tail] at hend
  obtain ⟨T', X', hWt, hsm, heq⟩ := X₁.outOfThrown (g := g1) hm1 (mk := mk) (a := A) (t := s₂) (x := x) (L := []) (k := mc) (n := ms) hend hW₂ hsame
  have hheap : s₂.heap = T'.heap := by rw [heq]; exact Stand.throwing_heap T' g1 x
  rw [List.append_nil] at X'
  obtain ⟨ce, hce, hcc, hcv⟩ := hnm _ _ _ _ hQ
  have hpl : e.platform.magicAccessors = ({} : Platform).magicAccessors := by rw [X.admits.platform]
  obtain ⟨c', hc', hcl⟩ := Cond.classLink_spec ho hlk e.platform hpl
  cases hcX.symm.trans hc'
  obtain ⟨dk, _, _, kt, hd, _, _, _, _, hkt, _, hopen⟩ := hcl.here
  have hcl₀ := X'.warmed.classLinks hcl
  have hW' : s.WarmedH (T'.vm.noted m.cls ct (.cls cX)) := X'.warmed.noted hd hopen (State.rightAt_cls hcl)
  obtain ⟨kt', hkt', -⟩ := hW'.alike.2.2 _ _ hkt
  have X'' := X'.noted hW'
  obtain ⟨x0, hx0⟩ : ∃ x0 : ExceptionTableEntry, c.exceptionTable.toList = [x0] := by
    cases hq : c.exceptionTable.toList with
    | nil => rw [hq] at htab; exact absurd (congrArg List.length htab) (by simp)
    | cons x0 tl =>
      cases tl with
      | nil => exact ⟨x0, rfl⟩
      | cons x1 tl => rw [hq] at htab; exact absurd (congrArg List.length htab) (by simp)
  rw [hx0] at htab
  simp only [List.map_cons, List.map_nil, List.cons.injEq, Prod.mk.injEq, and_true] at htab
  obtain ⟨e1, e2', e3, e4⟩ := htab
  have hcov : covers x0 g1.pc = true := by
    rw [hg1]
    simp only [covers, Bool.and_eq_true, decide_eq_true_eq]
    show x0.startPc ≤ pc ∧ pc < x0.endPc
    omega
  obtain ⟨t9, a1, b1⟩ := kk x (((T.setVm vm₁).setTop g1).pushFrame (.invoking mk A)) s₂ hT (by rw [← hA]; exact hQ) (T'.setVm (T'.vm.noted m.cls ct (.cls cX))) hheap.symm X''
  refine ⟨t9, hstep₁ _ (fun acts => ?_), b1⟩
  rw [doInvoke_state]
  have hst : Steps p.tables e below ((T'.setTop g1).pushFrame (.throwing x)) t9 := by
    refine st_caught (vm' := T'.vm.noted m.cls ct (.cls cX)) (pc := ph) (by rw [hm1]; exact X'.here) ?_ ?_
    · rw [← e3]
      refine fh_cold (meth := meth) (code := c) (cX := cX) (cell := ce) ?_ X'.code hx0 hcov (by omega) ?_ ?_ ?_ ?_ ?_ ?_ ?_
      · rw [Stand.throwing_vm, hm1]; exact X'.method'
      · rw [Stand.throwing_vm, hm1, e4]; exact resolveClass_links e.toSetting hcl₀
      · rw [Stand.throwing_vm]; no_record
      · rw [Stand.throwing_heap, ← hheap]; exact hce
      · intro k; rw [hcv]; intro w; cases w
      · exact ⟨kt', by rw [hcc]; exact hkt'⟩
      · exact ⟨kt', hkt'⟩
      · rw [hW'.alike.assignable, hcc]; exact va_asg _ _
    · rw [hg1]; exact a1
  rw [heq] at hsteps
  subst hg1
  subst hA
  exact hsteps.trans hst

