/-! ROADS THAT END IN A THROW: a callee's free theorem, the throw of a new object with a message -/
def ps_MQT (below : List Frame) (Qt : Array Value → State → Addr → State → Prop) (a : Array Value) (s : State) (mc ms : Nat) (free : Addr → Prop) : State → Prop := fun t =>
  ∃ x, t.status = .running ∧ Ended t below (.threw x) ∧ Qt a s x t ∧ ∃ L, FrameEndT s (.threw x) t L mc ms ∧ ∀ q ∈ L, free q.base
def ps_MetT (l : Launch) (y : MethodName) (ws : List Cond) (rm : Room) (Pc : Array Value → State → Prop) (Qt : Array Value → State → Addr → State → Prop) (mc ms : Nat) (free : Addr → Prop) : Prop :=
  MetFree l y (headSpec ws rm) Pc (fun _ _ _ _ _ => True) (fun a st o t => (∃ x, o = .threw x ∧ Qt a st x t) ∧ ∃ L, FrameEndT st o t L mc ms ∧ ∀ q ∈ L, free q.base)
section PsMetT
variable {l : Launch} {y : MethodName} {ws' : List Cond} {rm : Room} {Pc : Array Value → State → Prop} {Qt : Array Value → State → Addr → State → Prop} {mc ms : Nat} {free : Addr → Prop} {cc : ByteArray} {maxL : Nat} {ret : Option FieldType}
theorem ps_metT (hy : plainName y.cls = true)
    (body : ∀ (p : Program) (e : Env) (s : State) (m : MethodId) (args : Array Value) (below : List Frame) (meth : Method) (c : Code), p.tables.exec = Jvm.exec → c.code = cc → c.exceptionTable.toList = [] → meth.sig.returnType = ret → c.maxLocals = maxL → (∀ w ∈ (Cond.code y cc maxL ret :: ws'), w.before args s = true) → s.vm.findClass y.cls = some m.cls → meth.locks = false → meth.name = y.name → Pc args s →
      ∀ Q, Q = ps_MQT below Qt args s mc ms free → W p l e rm s m args below meth c s.heap [] 0 0 Q (entryFrame m args maxL)) : ps_MetT l y (Cond.code y cc maxL ret :: ws') rm Pc Qt mc ms free := by
  refine MetFree.of_bodyS (code := cc) (maxLocals := maxL) (ret := ret) hy ?_ ?_
  · intro args s m h hn
    obtain ⟨meth, c, h1, h2, h3, h4, h5, h6, -, -⟩ := Cond.code_spec hn (atoms_spec (ws := Cond.code y cc maxL ret :: ws') h _ List.mem_cons_self)
    exact ⟨meth, c, h1, h2, h3, h4, h5, h6⟩
  · intro p e s m args below meth c s₁ B hml hP _
    have hh0 : s₁.heap = s.heap := by rw [B.state]; rfl
    have hts := atoms_spec (ws := Cond.code y cc maxL ret :: ws') B.pre
    have hex : c.exceptionTable.toList = [] := by
      obtain ⟨meth9, c9, h1, h2, h3, h4, h5, h6, h7, -⟩ := Cond.code_spec B.named (hts _ List.mem_cons_self)
      cases B.method.symm.trans h1
      have e9 : c = c9 := Option.some.inj ((Stand.of_body B).code.symm.trans h2)
      rw [e9, Array.isEmpty_iff.mp h7]
    obtain ⟨t, a1, x, b1, b2, b3, b4⟩ := body p e s m args below meth c B.exec B.bytes hex B.returns hml hts (findClass_of_methodNamed B.named) B.notSynchronized (name_of_methodNamed B.named B.method).1 hP _ rfl s₁ hh0 (Stand.of_body B)
    exact ⟨t, .threw x, a1, b1, b2, ⟨x, rfl, b3⟩, b4⟩
end PsMetT
section PsThrow
/-- the words that a throw of a new X with a message needs: its own constructor (bytes b1, link i1) hands on to Y's, and so on up -/
def ps_atoms (own : String) (ic : Nat) (X Y : String) (i1 : Nat) (b1 : ByteArray) (names : List String) : List Cond :=
  Bundle.throwableAtoms ++ Bundle.throwableSAtoms ++ Bundle.passSAtoms X Y i1 b1 ++ Bundle.chainSAtoms Y names ++
  [.methodLink own ic (Bundle.initS X), .instantiable X 6, .castable X X, .selects X Bundle.tFill0 Bundle.tFill0, .selects X Bundle.tFill Bundle.tFill,
   .lays X Bundle.tN "cause" "Ljava/lang/Throwable;", .lays X Bundle.tN "stackTrace" Bundle.steD, .lays X Bundle.tN "suppressedExceptions" Bundle.listD, .lays X Bundle.tN "detailMessage" "Ljava/lang/String;",
   .isRef (.static Bundle.tN "UNASSIGNED_STACK" Bundle.steD), .isRef (.static Bundle.tN "SUPPRESSED_SENTINEL" Bundle.listD),
   .fieldLink Bundle.tN 198 Bundle.tN "backtrace" "Ljava/lang/Object;", .lays Bundle.tN Bundle.tN "backtrace" "Ljava/lang/Object;", .lays X Bundle.tN "backtrace" "Ljava/lang/Object;"]
variable {p : Program} {l : Launch} {e : Env} {R : Room} {s : State} {m₀ : MethodId} {args : Array Value} {below : List Frame} {meth : Method} {c : Code} {W : State} {locs : List Loc} {cells slots : Nat}
set_option maxHeartbeats 1000000 in
theorem ps_ctorThrow (X : Stand p l e R s m₀ args below meth c W locs cells slots) (hexec : p.tables.exec = Jvm.exec) (htr : e.platform.stackTraces = false) {own cls up : String} {names : List String} {ic i1 : Nat} {b1 : ByteArray}
    (hown : s.vm.findClass own = some m₀.cls) (hcls : Bundle.fit cls = true) (hup : Bundle.fit up = true) (hnames : ∀ n ∈ names, Bundle.fit n = true)
    (hd0 : decode b1 0 = .ok (.aload_n 0, 1)) (hd1 : decode b1 1 = .ok (.aload_n 1, 1)) (hd2 : decode b1 2 = .ok (.invokespecial i1, 3)) (hd5 : decode b1 5 = .ok (.return_, 1))
    (h : ∀ a ∈ ps_atoms own ic cls up i1 b1 names, a.before args s = true)
    (hlocs : ∀ x ∈ locs, ∀ cell, s.heap[x.base]? = some cell → cell.vm.isStatics = false)
    {a : Addr} {cX : ClassId} {kX : Class} (hfoundX : s.vm.findClass cls = some cX) (hkX : s.vm.classes[cX]? = some kX) (hcell : W.heap[a]? = some (freshCell cX kX)) (hnew : s.heap.size ≤ a)
    {msg : Value} (hmsg : msg.isRef = true)
    {g : JFrame} (hg : g.method = m₀) (hsize : g.locals.size = c.maxLocals) (hlocked : g.locked = none) (hentered : g.entered = []) {rest : List Value} (hstack : g.stack = msg :: .ref a :: .ref a :: rest)
    (hd6 : decode c.code g.pc = .ok (.invokespecial ic, 3)) (hd9 : decode c.code (g.pc + 3) = .ok (.athrow, 1)) (hout : ∀ x ∈ c.exceptionTable.toList, covers x (g.pc + 3) = false)
    (hRframes : names.length + 4 < R.frames) (hRlocals : 2 * g.monitorRoom + ((Value.ref a :: rest).map fun v => v.category).sum + (13 * (names.length + 2) + 42) ≤ R.locals) (hlocks : meth.locks = false) :
    ∃ U : State, Steps p.tables e below (W.setTop g) U ∧ U.status = .running ∧ Ended U below (.threw a) ∧ s.WarmedH U.vm ∧ s.sameButNew ({ U with vm := s.vm } : State) locs cells slots ∧
      (∃ ce, U.heap[a]? = some ce ∧ ce.cls = cX ∧ ce.vm = .none) ∧ (∀ q, q ≠ a → U.heap[q]? = W.heap[q]?) ∧ U.heap.size = W.heap.size := by
  have howns : e.platform.frameOwnsMonitors = true := by rw [X.admits.platform]
  have hfin : e.platform.finalization = false := by rw [X.admits.platform]
  have hpl : e.platform.magicAccessors = ({} : Platform).magicAccessors := by rw [X.admits.platform]
  have mem : ∀ x, x ∈ Bundle.throwableAtoms ++ Bundle.throwableSAtoms ++ Bundle.passSAtoms cls up i1 b1 ++ Bundle.chainSAtoms up names → x ∈ ps_atoms own ic cls up i1 b1 names := fun x hx => List.mem_append_left _ hx
  have a' : ∀ x, x ∈ ps_atoms own ic cls up i1 b1 names → x.holds args s none s [] = true := fun x hx => h x hx
  obtain ⟨T, Z0, L, -, Y⟩ := ThrowableC.of_atoms (args := args) howns hfin hpl (fun x hx => h x (mem x (by simp [hx])))
  obtain ⟨Z, M, LZ, LM, hnZ⟩ := Init0T.ofS_atoms (args := args) hpl L Y (fun x hx => h x (mem x (by simp [hx])))
  obtain ⟨P1, L1, hP1m, hP1s⟩ := PassC.ofS_atoms (args := args) (s := s) hpl (X := cls) (Y := up) (Bundle.fit_spec hcls).1 (Bundle.fit_spec hup).2 hd0 hd1 hd2 hd5 (fun x hx => h x (mem x (by simp [hx])))
  obtain ⟨P2, Ps, hlen, L2, hL, hP2m, hlink1, hlink⟩ := Bundle.chainS (args := args) hpl hnZ names up hup hnames (fun x hx => h x (mem x (by simp [hx])))
  have hP12 : P1.sup = P2.m := Option.some.inj (hP1s.symm.trans hP2m)
  have hfound : s.vm.findClass cls = some P1.m.cls := findClass_of_methodNamed hP1m
  cases Option.some.inj (hfoundX.symm.trans hfound)
  obtain ⟨c1, kX', hc1, hk, hord, -, -, hn6⟩ := Cond.instantiable_spec (a' (.instantiable cls 6) (by simp [ps_atoms]))
  cases Option.some.inj (hc1.symm.trans hfound)
  cases Option.some.inj (hkX.symm.trans hk)
  have hsel0 : selectMethod e.platform s.vm P1.m.cls T.fill0 = .method T.fill0 := by
    obtain ⟨c2, r2, m2, q1, q2, q3, q4, -⟩ := Cond.selects_spec (a' (.selects cls Bundle.tFill0 Bundle.tFill0) (by simp [ps_atoms]))
    cases Option.some.inj (q1.symm.trans hfound)
    cases Option.some.inj (q2.symm.trans (State.methodFound?_of_named Y.fill0 (by decide)))
    cases Option.some.inj (q3.symm.trans Y.fill0)
    rw [Launch.admits_selectMethod X.admits]; exact q4
  have hselF : selectMethod e.platform s.vm P1.m.cls T.fill = .method T.fill := by
    obtain ⟨c2, r2, m2, q1, q2, q3, q4, -⟩ := Cond.selects_spec (a' (.selects cls Bundle.tFill Bundle.tFill) (by simp [ps_atoms]))
    cases Option.some.inj (q1.symm.trans hfound)
    cases Option.some.inj (q2.symm.trans (State.methodFound?_of_named Y.fill (by decide)))
    cases Option.some.inj (q3.symm.trans Y.fill)
    rw [Launch.admits_selectMethod X.admits]; exact q4
  obtain ⟨cellS0, hcS0, hiss⟩ := Y.statics
  obtain ⟨u0, hu0⟩ := Cond.staticRefV Y.unassigned L.unassignedStatic L.statics hcS0 hiss (a' (.isRef (.static Bundle.tN "UNASSIGNED_STACK" Bundle.steD)) (by simp [ps_atoms]))
  obtain ⟨sen, hsen⟩ := Cond.staticRefV Y.sentinel L.sentinelStatic L.statics hcS0 hiss (a' (.isRef (.static Bundle.tN "SUPPRESSED_SENTINEL" Bundle.listD)) (by simp [ps_atoms]))
  obtain ⟨ci198, i198, fB, hk198, hg198, ha198, hsB, -, hnB, htB, hffB⟩ := Cond.ownField (t := .object "java/lang/Object") Y.found L.cls (by decide +kernel) (a' (.fieldLink Bundle.tN 198 Bundle.tN "backtrace" "Ljava/lang/Object;") (by simp [ps_atoms])) (a' (.lays Bundle.tN Bundle.tN "backtrace" "Ljava/lang/Object;") (by simp [ps_atoms])) e.platform hpl
  obtain ⟨cellS, hcS', heS, -, hkeep⟩ := X.same.2.2.2.2.2 T.aS cellS0 hcS0
  have hcellS : W.heap[T.aS]? = some cellS := hcS'
  have hout' : ∀ i, (⟨T.aS, i⟩ : Loc) ∉ locs := fun i hmem => by
    have := hlocs _ hmem cellS0 hcS0
    rw [hiss] at this; cases this
  have hknownS : cellS.vm ≠ .unknown := by
    rw [heS]; intro hu
    rw [show cellS0.vm = .unknown from hu] at hiss
    cases hiss
  have hneS : T.aS ≠ a := Nat.ne_of_lt (Nat.lt_of_lt_of_le (Array.getElem?_eq_some_iff.mp hcS0).1 hnew)
  obtain ⟨iM, hffM⟩ := Y.msg
  obtain ⟨tyC, dC, hdC, hdnC⟩ := Cond.laysAt hfound hk Y.cause (a' (.lays cls Bundle.tN "cause" "Ljava/lang/Throwable;") (by simp [ps_atoms]))
  obtain ⟨tyS, dS, hdS, hdnS⟩ := Cond.laysAt hfound hk Y.stack (a' (.lays cls Bundle.tN "stackTrace" Bundle.steD) (by simp [ps_atoms]))
  obtain ⟨tyP, dP, hdP, hdnP⟩ := Cond.laysAt hfound hk Y.supp (a' (.lays cls Bundle.tN "suppressedExceptions" Bundle.listD) (by simp [ps_atoms]))
  obtain ⟨tyM, dM, hdM, hdnM⟩ := Cond.laysAt hfound hk hffM (a' (.lays cls Bundle.tN "detailMessage" "Ljava/lang/String;") (by simp [ps_atoms]))
  obtain ⟨tyB, dB, hdB, hdnB⟩ := Cond.laysAt hfound hk hffB (a' (.lays cls Bundle.tN "backtrace" "Ljava/lang/Object;") (by simp [ps_atoms]))
  have bC := Cond.laysApart hdB hdC hdnB hdnC (by rw [hnB, Y.causeName]; decide)
  have bS := Cond.laysApart hdB hdS hdnB hdnS (by rw [hnB, Y.stackName]; decide)
  have bP := Cond.laysApart hdB hdP hdnB hdnP (by rw [hnB, Y.suppName]; decide)
  have hskip : SkipFacts T e.platform s (fun u => u) u0 ((preparedCellV T.toThrowableT (freshCell P1.m.cls kX) a u0 sen).withEntry W.cur) :=
    ⟨{ ci198 := ci198, i198 := i198, fBack := fB }, ⟨hk198, hg198, ha198, hsB⟩, by
      have := fresh_default (c := P1.m.cls) tyB
      rw [htB] at this
      simpa [preparedCellV, Cell.setSlot, Cell.withEntry, Array.getElem?_setIfInBounds, bC, bS, bP, bC.symm, bS.symm, bP.symm, defaultValue] using this, fun _ _ => rfl⟩
  obtain ⟨tm, methC, cdC, kC, vm₁, hnC, -, -, -, -, -, -, -, hW₁, st1⟩ := Steps.initColdS (tb := p.tables) (e := e) (below := below) (s := s) (U := W) X.here hexec X.warmed hpl hown (t := Bundle.initS cls) rfl rfl (Bundle.fit_spec hcls).2
    (a' (.methodLink own ic (Bundle.initS cls)) (by simp [ps_atoms])) (h (.instanceMethod (Bundle.initS cls)) (mem _ (by simp [Bundle.passSAtoms]))) (bytes := b1) (maxL := 2) (h (.code (Bundle.initS cls) b1 2 none) (mem _ (by simp [Bundle.passSAtoms])))
    (f := g) hg (a := a) (msg := msg) (rest := .ref a :: rest) hstack hd6
  cases Option.some.inj (hnC.symm.trans hP1m)
  have X₁ := X.noted hW₁
  obtain ⟨vm₂, X₂, st2⟩ := X₁.ctorMessageOffV hexec (g := { g with stack := .ref a :: rest }) hg hsize T L Z LZ M LM (P1 :: P2 :: Ps)
    (fun P hP => by
      rcases List.mem_cons.mp hP with rfl | hP
      · exact L1
      · rcases List.mem_cons.mp hP with rfl | hP
        · exact L2
        · exact hL P hP) ⟨hP12, hlink1, hlink⟩ (u0 := u0) (sen := sen) (self := a) hmsg (cell := freshCell P1.m.cls kX) (cellS := cellS)
    hcell (fun _ => by simp) (by simp) rfl rfl hsel0 hselF hcellS hneS hknownS (by rw [hkeep _ (hout' _)]; exact hu0) (by rw [hkeep _ (hout' _)]; exact hsen)
    (Takes.of_laid hk hord tyC (by rw [Y.causeType]; rfl)) (Takes.of_laid hk hord tyS (by rw [Y.stackType]; exact fits_refV_array _ u0)) (Takes.of_laid hk hord tyP (by rw [Y.suppType]; exact fits_refV_object _ sen))
    (Takes.of_laid hk hord tyM (by rw [Y.msgType]; exact fits_refV_object _ ⟨msg, hmsg⟩)) Y.objLocals hskip htr [] hd6
    (by simp only [List.length_cons, hlen]; omega) (by simp only [List.length_cons, hlen]; exact hRlocals)
  obtain ⟨hwalk, hrun, hended, hWU, hsame⟩ := X₂.athrowLeaves hexec (g := { g with stack := .ref a :: rest, pc := g.pc + 3 }) hg hlocked hentered hout (a := a) (rest := rest) rfl hd9
  have hlt : a < ((W.setVm vm₁).setVm vm₂).heap.size := (Array.getElem?_eq_some_iff.mp hcell).1
  refine ⟨_, st1 _ (fun acts => ?_), hrun, hended, hWU, hsame.weaken (fun y hy hlt' => ?_) (Nat.le_refl _) (Nat.le_refl _), ⟨_, heapAt_setCell_self (s := (W.setVm vm₁).setVm vm₂) (plainBareV T.toThrowableT (freshCell P1.m.cls kX) a u0 sen msg) hlt, rfl, rfl⟩, fun q hq => heapAt_setCell_ne (s := (W.setVm vm₁).setVm vm₂) _ (Ne.symm hq), size_setCell ((W.setVm vm₁).setVm vm₂) a _⟩
  · rw [doInvoke_state]
    exact st2 _ hwalk
  · rcases List.mem_append.mp hy with h1 | h1
    · exact h1
    · exfalso
      have hb : y.base = a := by
        simp only [List.mem_cons, List.not_mem_nil, or_false] at h1
        rcases h1 with rfl | rfl | rfl | rfl | rfl <;> rfl
      rw [hb] at hlt'
      exact Nat.not_lt.mpr hnew hlt'
end PsThrow
/-- a static field as it is laid, with a reference or null in it -/
def ps_LS (C n d : String) (A : Nat → Prop) (U : State) (H : Heap) : Prop := ∃ (c : ClassId) (k : Class) (i : Nat) (f : Field) (a : Nat) (cell : Cell) (v : RefV), U.vm.findClass C = some c ∧ U.fieldFound? C n d = some (c, k, i, f) ∧ f.isStatic = true ∧ k.statics = some a ∧ H[a]? = some cell ∧ cell.vm.isStatics = true ∧ cell.cls = c ∧ f.slot < cell.slots.size ∧ k.staticTypes[f.slot]? = some f.type ∧ cell.slots[f.slot]? = some v.v ∧ ¬ A a
theorem ps_LS.moved {C n d : String} {A : Nat → Prop} {u U : State} {H : Heap} (hvm : u.vm.Alike U.vm) (h : ps_LS C n d A u H) : ps_LS C n d A U H := by
  obtain ⟨c, k, i, f, a, cell, v, h0, h1, h2, h3, h4, h5, h6, h7, h8, h9⟩ := h
  obtain ⟨k', hi', he⟩ := State.fieldFound?_setVm hvm h1
  exact ⟨c, k', i, f, a, cell, v, by rw [hvm.findClass]; exact h0, hi', h2, by rw [he]; exact h3, h4, h5, h6, h7, by rw [he]; exact h8, h9⟩
theorem ps_LS.kept {C n d : String} {A : Nat → Prop} {U : State} {H H1 : Heap} (h : ps_LS C n d A U H) (hq : ∀ a : Nat, a < H.size → ¬ A a → H1[a]? = H[a]?) : ps_LS C n d A U H1 := by
  obtain ⟨c, k, i, f, a, cell, v, h0, h1, h2, h3, h4, h5, h6, h7, h8, h9, h10⟩ := h
  exact ⟨c, k, i, f, a, cell, v, h0, h1, h2, h3, by rw [hq a (Array.getElem?_eq_some_iff.mp h4).1 h10]; exact h4, h5, h6, h7, h8, h9, h10⟩
theorem ps_LS.narrow {C n d : String} {A B : Nat → Prop} {U : State} {H : Heap} (h : ps_LS C n d A U H) (hAB : ∀ q, B q → A q) : ps_LS C n d B U H := by
  obtain ⟨c, k, i, f, a, cell, v, h0, h1, h2, h3, h4, h5, h6, h7, h8, h9, h10⟩ := h
  exact ⟨c, k, i, f, a, cell, v, h0, h1, h2, h3, h4, h5, h6, h7, h8, h9, fun z => h10 (hAB a z)⟩
theorem ps_LS.of {args : Array Value} {s : State} {C n d : String} {A : Nat → Prop} (hl : (Cond.laysStatic C n d).before args s = true) (h : (Cond.isRef (.static C n d)).before args s = true) (hA : ∀ a : Nat, a < s.heap.size → ¬ A a) : ps_LS C n d A s s.heap := by
  obtain ⟨c, k, i, f, a, cell, hc, hi, hst, ha, hcell, hs, hcls, hlt, hty⟩ := Cond.laysStatic_spec hl
  obtain ⟨v, hv⟩ := Cond.staticRefV hi hst ha hcell hs h
  exact ⟨c, k, i, f, a, cell, v, hc, hi, hst, ha, hcell, hs, hcls, hlt, hty, hv, hA a (Array.getElem?_eq_some_iff.mp hcell).1⟩
theorem ps_LS.lays {C n d : String} {A : Nat → Prop} {U : State} {args : Array Value} (h : ps_LS C n d A U U.heap) : (Cond.laysStatic C n d).before args U = true := by
  obtain ⟨c, k, i, f, a, cell, v, h0, h1, h2, h3, h4, h5, h6, h7, h8, h9, h10⟩ := h
  simp [Cond.before, Cond.holds, Cond.value, h0, h1, h2, h3, h4, h5, h6, h7, h8]
theorem ps_LS.isr {C n d : String} {A : Nat → Prop} {U : State} {args : Array Value} (h : ps_LS C n d A U U.heap) : (Cond.isRef (.static C n d)).before args U = true := by
  obtain ⟨c, k, i, f, a, cell, ⟨v, hv⟩, h0, h1, h2, h3, h4, h5, h6, h7, h8, h9, h10⟩ := h
  have ev : (Term.static C n d).eval args U none [] U = some v := by
    simp [Term.eval, State.fieldNamed?, h1, h2, h3, h4, h5, h9]
  simp only [Cond.before, Cond.holds, Cond.value, ev, Option.map_some]
  cases v <;> first | exact absurd hv Bool.false_ne_true | simp_all
section PsThr
abbrev ps_IAE : String := "java/lang/IllegalArgumentException"
abbrev ps_NSE : String := "java/util/NoSuchElementException"
/-- the words that no callee is handed by itself -/
def ps_dw : List Cond := [.declares (Bundle.initS "java/lang/RuntimeException"), .declares (Bundle.initS "java/lang/Exception"), .declares (Bundle.initS Bundle.tN), .castable ps_IAE ps_IAE, .castable ps_NSE ps_NSE]
theorem ps_dw_warm {s U : State} (hW : s.WarmedH U.vm) (h : ∀ w ∈ ps_dw, va_Nw w s) : ∀ w ∈ ps_dw, va_Nw w U := by
  intro w hw
  have h1 := h w hw
  simp only [ps_dw, List.mem_cons, List.not_mem_nil, or_false] at hw
  rcases hw with rfl | rfl | rfl | rfl | rfl
  · exact va_Nw.warmD hW h1
  · exact va_Nw.warmD hW h1
  · exact va_Nw.warmD hW h1
  · exact va_Nw.warmC hW h1
  · exact va_Nw.warmC hW h1
theorem ps_dw_tab {w : Cond} (hw : w ∈ ps_dw) : w.onTables = true := by
  simp only [ps_dw, List.mem_cons, List.not_mem_nil, or_false] at hw
  rcases hw with rfl | rfl | rfl | rfl | rfl <;> rfl
def ps_Thr (m1 m2 m3 : Nat) (A : Nat → Prop) (U : State) (H : Heap) : Prop :=
  ps_LS Bundle.tN "UNASSIGNED_STACK" Bundle.steD A U H ∧ ps_LS Bundle.tN "SUPPRESSED_SENTINEL" Bundle.listD A U H ∧ (∀ w ∈ ps_dw, va_Nw w U) ∧ vk_R "PieceShelf" 89 "no such thing, or its length is not known" m1 U ∧ vk_R "PieceShelf" 115 "no such row" m2 U ∧ vk_R "PieceShelf" 128 "no such fetch" m3 U
theorem ps_Thr.warm {m1 m2 m3 : Nat} {A : Nat → Prop} {s U : State} {H : Heap} (hW : s.WarmedH U.vm) (h : ps_Thr m1 m2 m3 A s H) : ps_Thr m1 m2 m3 A U H := by
  obtain ⟨h1, h2, h0, h3, h4, h5⟩ := h
  exact ⟨h1.moved hW.alike, h2.moved hW.alike, ps_dw_warm hW h0, h3.warm hW, h4.warm hW, h5.warm hW⟩
theorem ps_Thr.blind {m1 m2 m3 : Nat} {A : Nat → Prop} {U : State} {g : JFrame} {mk : MethodId} {a : Array Value} (h : ps_Thr m1 m2 m3 A U U.heap) : ps_Thr m1 m2 m3 A (U.calling g mk a) (U.calling g mk a).heap := by
  obtain ⟨h1, h2, h0, h3, h4, h5⟩ := h
  have r : U.vm.Alike (U.calling g mk a).vm := Vm.Alike.refl U.vm
  exact ⟨ps_LS.moved r h1, ps_LS.moved r h2, fun w hw => va_Nw.same (u := U) (ps_dw_tab hw) rfl (h0 w hw), vk_R.same (u := U) rfl h3, vk_R.same (u := U) rfl h4, vk_R.same (u := U) rfl h5⟩
theorem ps_Thr.kept {m1 m2 m3 : Nat} {A : Nat → Prop} {U : State} {H H1 : Heap} (h : ps_Thr m1 m2 m3 A U H) (hq : ∀ a : Nat, a < H.size → ¬ A a → H1[a]? = H[a]?) : ps_Thr m1 m2 m3 A U H1 := by
  obtain ⟨h1, h2, h3⟩ := h
  exact ⟨h1.kept hq, h2.kept hq, h3⟩
theorem ps_Thr.narrow {m1 m2 m3 : Nat} {A B : Nat → Prop} {U : State} {H : Heap} (h : ps_Thr m1 m2 m3 A U H) (hAB : ∀ q, B q → A q) : ps_Thr m1 m2 m3 B U H := by
  obtain ⟨h1, h2, h3⟩ := h
  exact ⟨h1.narrow hAB, h2.narrow hAB, h3⟩
theorem ps_Thr.at {m1 m2 m3 : Nat} {A : Nat → Prop} {s U : State} {H : Heap} (hU : U.heap = H) (hW : s.WarmedH U.vm) (h : ps_Thr m1 m2 m3 A s H) : ps_Thr m1 m2 m3 A U U.heap := by rw [hU]; exact h.warm hW
abbrev ps_sw4w : List Cond := [.laysStatic Bundle.tN "UNASSIGNED_STACK" Bundle.steD, .laysStatic Bundle.tN "SUPPRESSED_SENTINEL" Bundle.listD, .isRef (.static Bundle.tN "UNASSIGNED_STACK" Bundle.steD), .isRef (.static Bundle.tN "SUPPRESSED_SENTINEL" Bundle.listD)]
theorem ps_Thr.words {m1 m2 m3 : Nat} {A : Nat → Prop} {U : State} {args : Array Value} {ws : List Cond} (h : ps_Thr m1 m2 m3 A U U.heap) (hT : ∀ w ∈ ps_tb, w.before args U = true) (hin : ∀ w ∈ ws, w ∈ ps_tb ∨ w ∈ ps_dw ∨ w ∈ ps_sw4w) : ∀ w ∈ ws, w.before args U = true := by
  intro w hw
  obtain ⟨h1, h2, h0, -⟩ := h
  rcases hin w hw with q | q | q
  · exact hT w q
  · exact va_Nw.use (ps_dw_tab q) (h0 w q)
  · simp only [ps_sw4w, List.mem_cons, List.not_mem_nil, or_false] at q
    rcases q with rfl | rfl | rfl | rfl
    · exact h1.lays
    · exact h2.lays
    · exact h1.isr
    · exact h2.isr
theorem ps_at1 : ∀ w ∈ ps_atoms "PieceShelf" 91 ps_IAE "java/lang/RuntimeException" 7 prog_9_method_2_code ["java/lang/Exception"], w ∈ ps_tb ∨ w ∈ ps_dw ∨ w ∈ ps_sw4w := by decide +kernel
theorem ps_at2 : ∀ w ∈ ps_atoms "PieceShelf" 117 ps_NSE "java/lang/RuntimeException" 13 prog_17_method_4_code ["java/lang/Exception"], w ∈ ps_tb ∨ w ∈ ps_dw ∨ w ∈ ps_sw4w := by decide +kernel
end PsThr
theorem ps_nst {D : va_G} {cl : List vw_C} {n : Nat} {g : Nat → Nat} {E : Nat → va_E} {H : Heap} (hP : va_P D cl (ps_wl n g E) H) {q : Nat} (hq : ps_wA n g q) : ∀ cell : Cell, H[q]? = some cell → cell.vm.isStatics = false := by
  obtain ⟨k, hk, rfl⟩ := hq
  intro cell hc
  have h := ps_wl_P.mp hP k hk
  unfold va_at at h
  rcases hE : E k with a | o
  · rw [hE] at h
    simp only at h
    rw [hc] at h
    have e := Option.some.inj h
    rw [e]
    obtain ⟨cA, N, b⟩ := a
    rcases b with f | f | f | f | f <;> rfl
  · rw [hE] at h
    obtain ⟨r, -, cell2, h1, -, h3, -⟩ := h
    rw [hc] at h1
    rw [Option.some.inj h1, h3]; rfl
section PsThrowW
variable {p : Program} {l : Launch} {e : Env} {R : Room} {s : State} {m : MethodId} {args : Array Value} {below : List Frame} {meth : Method} {c : Code} {H : Heap} {locs : List Loc} {cells slots : Nat} {cc : ByteArray}
theorem ps_throwNew {Qt : Array Value → State → Addr → State → Prop} {free : Addr → Prop} (hx : p.tables.exec = Jvm.exec) (hb : c.code = cc) (hex : c.exceptionTable.toList = []) (hst : l.stackTraces = false) {own cls up tx : String} {names : List String} {ik im ic i1 qm : Nat} {b1 : ByteArray}
    (hown : s.vm.findClass own = some m.cls) (hcl : (Cond.classLink own ik cls).before args s = true) (hin : (Cond.instantiable cls 6).before args s = true) (hini : (Cond.initialized cls).before args s = true) (hZ : vk_R own im tx qm s)
    (hcls : Bundle.fit cls = true) (hup : Bundle.fit up = true) (hnames : ∀ n ∈ names, Bundle.fit n = true)
    (hd0 : decode b1 0 = .ok (.aload_n 0, 1)) (hd1 : decode b1 1 = .ok (.aload_n 1, 1)) (hd2 : decode b1 2 = .ok (.invokespecial i1, 3)) (hd5 : decode b1 5 = .ok (.return_, 1))
    (hat : ∀ a ∈ ps_atoms own ic cls up i1 b1 names, a.before args s = true) (hns : ∀ x ∈ locs, ∀ cell, s.heap[x.base]? = some cell → cell.vm.isStatics = false) (hle : s.heap.size ≤ H.size)
    (hcells : cells + 1 ≤ R.cells) (hslots : slots + 6 ≤ R.slots) {pc : Nat} {ls : Array Slot} (k0 : decode cc pc = .ok (.new ik, 3)) (k3 : decode cc (pc + 3) = .ok (.dup, 1)) (k4 : decode cc (pc + 3 + 1) = .ok (.ldc im, 2)) (k6 : decode cc (pc + 3 + 1 + 2) = .ok (.invokespecial ic, 3)) (k9 : decode cc (pc + 3 + 1 + 2 + 3) = .ok (.athrow, 1))
    (hsz : ls.size = c.maxLocals) (hfr : names.length + 4 < R.frames) (hlo : 2 + (13 * (names.length + 2) + 42) ≤ R.locals) (hlocks : meth.locks = false) (hf : ∀ q ∈ locs, free q.base)
    (hq : ∀ (t : State) (ce : Cell), t.heap.size = H.size + 1 → (∀ q, q < H.size → t.heap[q]? = H[q]?) → t.heap[H.size]? = some ce → s.vm.findClass cls = some ce.cls → ce.vm = .none → s.WarmedH t.vm → Qt args s H.size t) :
    W p l e R s m args below meth c H locs cells slots (ps_MQT below Qt args s (cells + 1) (slots + 6) free) (F0 m pc ls []) := by
  refine W.newc hx hb hown hcl hin hini (g := F0 m pc ls []) rfl k0 hcells hslots fun cC kC h1 h2 h3 h4 => ?_
  refine W.eq (g2 := F0 m (pc + 3) ls [.ref H.size]) rfl ?_
  refine lv_dup hx hb k3 rfl ?_
  refine va_ldcS hx hb hown hZ k4 ?_
  intro T hT X
  obtain ⟨U, st, hrun, hend, hW, hsame, ⟨ce, hce, hcc, hvm⟩, hkeep, hsize⟩ := ps_ctorThrow X hx (by rw [X.admits.platform]; exact hst) hown hcls hup hnames hd0 hd1 hd2 hd5 hat hns (a := H.size) h1 h2 (by rw [hT]; simp [freshCell]) hle (msg := .ref qm) rfl (g := F0 m (pc + 3 + 1 + 2) ls [.ref qm, .ref H.size, .ref H.size]) rfl hsz rfl rfl (rest := []) rfl (by rw [hb]; exact k6) (by rw [hb]; exact k9) (by rw [hex]; intro x hx; exact absurd hx List.not_mem_nil) hfr (by
    show 2 * (F0 m (pc + 3 + 1 + 2) ls [.ref qm, .ref H.size, .ref H.size]).monitorRoom + 1 + _ ≤ _
    have : (F0 m (pc + 3 + 1 + 2) ls [.ref qm, .ref H.size, .ref H.size]).monitorRoom = 0 := rfl
    omega) hlocks
  refine ⟨U, st, H.size, hrun, hend, hq U ce (by rw [hsize, hT]; simp) (fun q hq' => ?_) hce (by rw [hcc]; exact h1) hvm hW, locs, ⟨⟨_, rfl⟩, hW, hsame⟩, hf⟩
  rw [hkeep q (Nat.ne_of_lt hq'), hT, Array.getElem?_push, if_neg (Nat.ne_of_lt hq')]
end PsThrowW
