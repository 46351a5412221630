/-! the law's wrappers: methods with an exception table; the array that takes the answer -/
section PsMetW
variable {l : Launch} {y : MethodName} {ws' : List Cond} {rm : Room} {Pc : Array Value → State → Prop} {Qc : Array Value → State → Outcome → State → Prop} {mc ms : Nat} {free : Addr → Prop} {cc : ByteArray} {maxL : Nat} {ret : Option FieldType} {hh : List (Nat × Nat × Nat × Nat)}
theorem ps_metW (hy : plainName y.cls = true)
    (body : ∀ (p : Program) (e : Env) (s : State) (m : MethodId) (args : Array Value) (below : List Frame) (meth : Method) (c : Code), p.tables.exec = Jvm.exec → c.code = cc → c.exceptionTable.toList.map (fun h => (h.startPc, h.endPc, h.handlerPc, h.catchType)) = hh → meth.sig.returnType = ret → c.maxLocals = maxL → (∀ w ∈ (Cond.codeWith y cc maxL ret hh :: ws'), w.before args s = true) → s.vm.findClass y.cls = some m.cls → meth.locks = false → Pc args s →
      ∀ Q, Q = MQ below Qc args s mc ms free → W p l e rm s m args below meth c s.heap [] 0 0 Q (entryFrame m args maxL)) : Met l y (Cond.codeWith y cc maxL ret hh :: ws') rm Pc Qc mc ms free := by
  refine va_MetW (cc := cc) (maxL := maxL) (ret := ret) (hh := hh) hy rfl ?_
  intro p e s m args below meth c s₁ B hml hv
  have hts := atoms_spec (ws := Cond.codeWith y cc maxL ret hh :: ws') B.pre
  have hex : c.exceptionTable.toList.map (fun h => (h.startPc, h.endPc, h.handlerPc, h.catchType)) = hh := by
    obtain ⟨m9, meth9, c9, hn9, h1, h2, -, -, h5, -⟩ := Cond.codeWith_spec (hts _ List.mem_cons_self)
    cases B.named.symm.trans hn9
    cases B.method.symm.trans h1
    have e9 : c = c9 := Option.some.inj ((Stand.of_body B).code.symm.trans h2)
    rw [e9]; exact h5
  exact body p e s m args below meth c B.exec B.bytes hex B.returns hml hts (findClass_of_methodNamed B.named) B.notSynchronized hv _ rfl
end PsMetW
theorem ps_hex1 {t : List ExceptionTableEntry} {a b c d : Nat} (h : t.map (fun h => (h.startPc, h.endPc, h.handlerPc, h.catchType)) = [(a, b, c, d)]) : ∃ x : ExceptionTableEntry, t = [x] ∧ x.startPc = a ∧ x.endPc = b ∧ x.handlerPc = c ∧ x.catchType = d := by
  rcases t with _ | ⟨x, t⟩
  · cases h
  · rcases t with _ | ⟨y, t⟩
    · simp only [List.map_cons, List.map_nil, List.cons.injEq, Prod.mk.injEq, and_true] at h
      exact ⟨x, rfl, h.1, h.2.1, h.2.2.1, h.2.2.2⟩
    · simp at h
section PsRunSW
variable {p : Program} {l : Launch} {e : Env} {R : Room} {s : State} {m : MethodId} {args : Array Value} {below : List Frame} {meth : Method} {c : Code} {H : Heap} {locs : List Loc} {cells slots : Nat} {Q : State → Prop}
variable {y : MethodName} {bytes cc : ByteArray} {maxL nL mc ms n index : Nat} {ret : Option FieldType} {hh : List (Nat × Nat × Nat × Nat)} {ws ws' : List Cond} {rm : Room} {Pc : Array Value → State → Prop} {Qc : Array Value → State → Outcome → State → Prop} {free : Addr → Prop} {Ts : List Cond} {own : String} {As rest : List Value} {g : JFrame}
theorem ps_runSW (S : CallFix p m c cc nL s args Ts own) (hM : Met l y ws rm Pc Qc mc ms free) (hw : ws = Cond.codeWith y bytes maxL ret hh :: ws') (hG : GoodIn Ts ws) (hst : (Cond.static y).before args s = true) (hini : (Cond.initialized y.cls).before args s = true) (hl : (Cond.methodLink own index y).before args s = true)
    (hd : y.cls ≠ "java/lang/invoke/MethodHandle" ∧ y.cls ≠ "java/lang/invoke/VarHandle" ∧ (parseMethodDescriptor y.desc).map (fun d => d.parameters.length) = some n) (hrc : rm.cells = mc) (hrs : rm.slots = ms) (hR : rm.frames + 1 ≤ R.frames ∧ 8 + (maxL + 11) + rm.locals ≤ R.locals) (hp : PreS s H Pc As)
    (hg : g.method = m) (hn : As.length = n) (hsize : g.locals.size = nL) (hstack : g.stack = As.reverse ++ rest) (hW : 2 * g.monitorRoom + (rest.map fun v => v.category).sum ≤ 8) (hdg : decode cc g.pc = .ok (.invokestatic index, 3)) (hf : cells + mc ≤ R.cells ∧ slots + ms ≤ R.slots) :
    va_Run p l e R s m args below meth c H locs cells slots mc ms g rest (Qc As.toArray) (free) := by
  obtain ⟨hx, hb, hml, ho, ht⟩ := S
  have hcw : Cond.codeWith y bytes maxL ret hh ∈ ws := by rw [hw]; exact List.mem_cons_self
  have hcode : (Cond.codeWith y bytes maxL ret hh).before args s = true := ht _ (hG _ hcw).1
  have hK : Back l R p e below s args y 3 8 (PreOf R mc ms Pc) (PostOf Qc mc ms free) := va_backW (hh := hh) (bytes := bytes) (maxL := maxL) (ret := ret) hM hp.1 hrc hrs hR.1 hR.2 (pay_in ht hG) hcw (fun a' U hW => word_at hW (Or.inl (by first | rfl | simp [Cond.onTables, Cond.keeps, Cond.steady])) hini)
  obtain ⟨-, hPc⟩ := hp
  intro T hT X
  obtain ⟨mk, methM, cM, hnamed, hmethM, -, -, -, -, -, -, hsigM⟩ := Cond.codeWith_spec hcode
  have hstatic : methM.isStatic = true := Cond.static_spec hnamed hmethM hst
  obtain ⟨kP, hkP, -⟩ := className_of_methodNamed hnamed
  have hinitP : kP.init = .initialized := Cond.initialized_spec (findClass_of_methodNamed hnamed) hkP hini
  have hlen : As.length = methM.sig.parameters.length := by
    have h2 := hd.2.2
    rw [hsigM] at h2
    exact hn.trans (Option.some.inj h2).symm
  obtain ⟨vm₁, X₁, hstep₁⟩ := X.invokestatic hx ho hl hnamed hmethM hstatic hkP hinitP ⟨hd.1, hd.2.1⟩ (g := g) hg (argsL := As) (rest := rest) hlen hstack (by rw [hb]; exact hdg)
  obtain ⟨v, ⟨U', l2, c2, s2⟩, X', ⟨g', mk', t, L, e1, e2, hq, h1, hL, h2, h3⟩, hsteps⟩ := hK m meth c ⟨T.setVm vm₁, locs, cells, slots⟩ { g with stack := rest } (.invokestatic index) mk As.toArray X₁ hg (hsize.trans hml.symm) (by rw [hb]; exact hdg) hW (X₁.named hnamed) ⟨hf.1, hf.2, hPc (T.setVm vm₁) hT X₁.warmed⟩
  dsimp only [Pt.U, Pt.locs, Pt.cells, Pt.slots] at X' e1 e2 h1 h2 h3 hsteps
  subst h1; subst h2; subst h3
  exact ⟨v, (T.setVm vm₁).calling g' mk' As.toArray, t, U', L, hT, X', hL, e1, e2, hq, fun target h => hstep₁ _ fun acts => by rw [doInvoke_state]; exact hsteps.trans h⟩
end PsRunSW
def ps_wB (g : Nat → Nat) (ao : Nat) : Nat → Prop := fun q => ps_wA 33 g q ∨ q = ao
abbrev ps_oE (cJ : ClassId) (ao : Nat) (f : Nat → Int64) : va_W := [(ao, .inl (cJ, 1, .inr (.inl f)))]
def ps_PcL (D : va_G) (cI cJ cT : ClassId) (g : Nat → Nat) (σ : ps_σ) (ao : Nat) (f : Nat → Int64) (aK aV : Nat) (vo : Option Nat) (m1 m2 m3 : Nat) (vs : List Value) : Array Value → State → Prop :=
  va_Pc vs (fun U => (((va_P D ps_cl (ps_wl 33 g (ps_E g cI cJ cT σ)) U.heap ∧ va_K D ps_cl (ps_tys cI cJ cT) U) ∧ va_P D ps_cl (ps_oE cJ ao f) U.heap) ∧ ps_Str aK aV vo ps_F U U.heap) ∧ ps_Thr m1 m2 m3 ps_F U U.heap)
theorem ps_blindL (D : va_G) (cI cJ cT : ClassId) (g : Nat → Nat) (σ : ps_σ) (ao : Nat) (f : Nat → Int64) (aK aV : Nat) (vo : Option Nat) (m1 m2 m3 : Nat) (vs : List Value) : FrameBlind (ps_PcL D cI cJ cT g σ ao f aK aV vo m1 m2 m3 vs) := fun a U fr mk q => by
  obtain ⟨q0, ⟨⟨⟨qP, qK⟩, qO⟩, qS⟩, qT⟩ := q
  exact ⟨q0, ⟨⟨⟨qP, va_K.moved (u := U) (U := U.calling fr mk a) (Vm.Alike.refl U.vm) qK⟩, qO⟩, ps_Str.blind qS⟩, ps_Thr.blind qT⟩
def ps_QL (D : va_G) (cI cJ cT : ClassId) (g : Nat → Nat) (ao : Nat) (post : Int32 → ps_σ × (Nat → Int64) → Prop) : Array Value → State → Outcome → State → Prop :=
  va_Qi post (fun u t => va_P D ps_cl (ps_wl 33 g (ps_E g cI cJ cT u.1)) t.heap ∧ va_P D ps_cl (ps_oE cJ ao u.2) t.heap) (ps_wB g ao)
theorem ps_oE_1 {D : va_G} {cl : List vw_C} {cJ : ClassId} {ao : Nat} {f : Nat → Int64} {H : Heap} : va_P D cl (ps_oE cJ ao f) H ↔ va_at D cl (ao, .inl (cJ, 1, .inr (.inl f))) H :=
  ⟨fun h => h 0 _ rfl, fun h k q hq => by
    have z1 : k < 1 := (List.getElem?_eq_some_iff.mp hq).1
    rw [show k = 0 by omega] at hq
    cases hq
    exact h⟩
theorem ps_oE_lt {D : va_G} {cl : List vw_C} {cJ : ClassId} {ao : Nat} {f : Nat → Int64} {H : Heap} (h : va_P D cl (ps_oE cJ ao f) H) : ao < H.size := (h 0 _ rfl).lt
theorem ps_oE_kept {D : va_G} {cl : List vw_C} {cJ : ClassId} {ao : Nat} {f : Nat → Int64} {H H1 : Heap} (h : va_P D cl (ps_oE cJ ao f) H) (hk : H1[ao]? = H[ao]?) : va_P D cl (ps_oE cJ ao f) H1 := by
  rw [ps_oE_1] at h ⊢
  show H1[ao]? = _
  rw [hk]; exact h
section PsLastO
variable {p : Program} {l : Launch} {e : Env} {R : Room} {s : State} {m : MethodId} {args : Array Value} {below : List Frame} {meth : Method} {c : Code} {H : Heap} {locs : List Loc} {cells slots : Nat} {Q : State → Prop}
variable {cc : ByteArray} {pc : Nat} {ls : Array Slot} {rest : List Value} {D : va_G} {cl : List vw_C} {tys : List (ClassId × FieldType)} {H0 : Heap} {n : Nat} {g : Nat → Nat} {E : Nat → va_E}
theorem ps_lastO (hexec : p.tables.exec = Jvm.exec) (hb : c.code = cc) (hK : va_K D cl tys s) (hg : ps_inj n g) (hP : va_P D cl (ps_wl n g E) H) {ao : Nat} {cJ : ClassId} {f : Nat → Int64} (hO : va_P D cl (ps_oE cJ ao f) H) (hao : ¬ ps_wA n g ao) {A : Nat → Prop} (hA : ∀ q, ps_wA n g q → A q) (hAo : A ao) (hS : va_S A H0 H locs) (t0 : Nat) (ht : tys[t0]? = some (cJ, .long)) {x : Int64} (hdg : decode cc pc = .ok (.lastore, 1))
    (kk : ∀ (H1 : Heap) (locs1 : List Loc), va_P D cl (ps_wl n g E) H1 → va_P D cl (ps_oE cJ ao (va_up f 0 x)) H1 → va_S A H0 H1 locs1 → W p l e R s m args below meth c H1 locs1 cells slots Q (F0 m (pc + 1) ls rest)) : W p l e R s m args below meth c H locs cells slots Q (F0 m pc ls (.long x :: .int (nI 0) :: .ref ao :: rest)) := by
  have hD : va_D A (ps_wl n g E ++ ps_oE cJ ao f) := by
    refine va_D.app ((ps_wl_D hg).weaken (fun k q _ h => hA _ h)) (ps_D1 hAo) (fun i j q z h1 h2 h3 => ?_)
    obtain ⟨a, rfl⟩ := ps_wl_of h1
    have z1 : j < 1 := (List.getElem?_eq_some_iff.mp h2).1
    rw [show j = 0 by omega] at h2
    cases h2
    exact hao ⟨i, a, h3.symm⟩
  have hidx : (ps_wl n g E ++ ps_oE cJ ao f)[n]? = some (ao, .inl (cJ, 1, .inr (.inl f))) := by
    rw [List.getElem?_append_right (by rw [ps_wl_len]; exact Nat.le_refl n), ps_wl_len, Nat.sub_self]; rfl
  refine va_last hexec hb hK (va_P.app hP hO) hD hS n t0 hidx ht (vp_in_nI (n := 0) (by decide) (by decide)) hdg (fun H1 locs1 hP1 _ hS1 => kk H1 locs1 (ps_wl_P.mpr (fun k hk => ?_)) (ps_oE_1.mpr ?_) hS1)
  · refine hP1 k _ ?_
    rw [List.getElem?_set_ne (by omega), List.getElem?_append_left (by rw [ps_wl_len]; exact hk), ps_wl_get hk]
  · rw [nI_clamp (by decide)] at hP1
    refine hP1 n _ ?_
    rw [List.getElem?_set_self (by rw [List.length_append, ps_wl_len]; simp)]
    rfl
end PsLastO
