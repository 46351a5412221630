/-! the one text constant that is read: "bytes=" -/
def ps_hb (j : Nat) : Int32 := ([98, 121, 116, 101, 115, 61] : List Int32).getD j 0
def ps_Str (aK aV : Nat) (vo : Option Nat) (A : Nat → Prop) (U : State) (H : Heap) : Prop :=
  va_O "java/lang/String" aK A U H ∧ va_OF "java/lang/String" "coder" "B" (.int 0) aK A U H ∧ va_OF "java/lang/String" "value" "[B" (.ref aV) aK A U H ∧ va_T .byte aV 6 (fun j => .int (ps_hb j)) A U H ∧ va_Z "java/lang/String" "COMPACT_STRINGS" "Z" (.int 1) A U H ∧ va_Z "jdk/internal/util/Preconditions" "SIOOBE_FORMATTER" "Ljava/util/function/BiFunction;" (va_rf vo) A U H ∧ vk_R "PieceShelf$Tape" 33 "bytes=" aK U
theorem ps_Str.warm {aK aV : Nat} {vo : Option Nat} {A : Nat → Prop} {s U : State} {H : Heap} (hW : s.WarmedH U.vm) (h : ps_Str aK aV vo A s H) : ps_Str aK aV vo A U H := by
  obtain ⟨h1, h2, h3, h4, h5, h6, h7⟩ := h
  exact ⟨h1.moved hW.alike, h2.moved hW.alike, h3.moved hW.alike, h4.moved hW.alike, h5.moved hW.alike, h6.moved hW.alike, h7.warm hW⟩
theorem ps_Str.blind {aK aV : Nat} {vo : Option Nat} {A : Nat → Prop} {U : State} {g : JFrame} {mk : MethodId} {a : Array Value} (h : ps_Str aK aV vo A U U.heap) : ps_Str aK aV vo A (U.calling g mk a) (U.calling g mk a).heap := by
  obtain ⟨h1, h2, h3, h4, h5, h6, h7⟩ := h
  have r : U.vm.Alike (U.calling g mk a).vm := Vm.Alike.refl U.vm
  exact ⟨va_O.moved r h1, va_OF.moved r h2, va_OF.moved r h3, va_T.moved r h4, va_Z.moved r h5, va_Z.moved r h6, vk_R.same (u := U) rfl h7⟩
theorem ps_Str.kept {aK aV : Nat} {vo : Option Nat} {A : Nat → Prop} {U : State} {H H1 : Heap} (h : ps_Str aK aV vo A U H) (hq : ∀ a : Nat, a < H.size → ¬ A a → H1[a]? = H[a]?) : ps_Str aK aV vo A U H1 := by
  obtain ⟨h1, h2, h3, h4, h5, h6, h7⟩ := h
  exact ⟨h1.kept hq, h2.kept hq, h3.kept hq, h4.kept hq, h5.kept hq, h6.kept hq, h7⟩
theorem ps_Str.narrow {aK aV : Nat} {vo : Option Nat} {A B : Nat → Prop} {U : State} {H : Heap} (h : ps_Str aK aV vo A U H) (hAB : ∀ q, B q → A q) : ps_Str aK aV vo B U H := by
  obtain ⟨h1, h2, h3, h4, h5, h6, h7⟩ := h
  exact ⟨h1.narrow hAB, h2.narrow hAB, h3.narrow hAB, h4.narrow hAB, h5.narrow hAB, h6.narrow hAB, h7⟩
theorem ps_Str.at {aK aV : Nat} {vo : Option Nat} {A : Nat → Prop} {s U : State} {H : Heap} (hU : U.heap = H) (hW : s.WarmedH U.vm) (h : ps_Str aK aV vo A s H) : ps_Str aK aV vo A U U.heap := by rw [hU]; exact h.warm hW
abbrev ps_F : Nat → Prop := fun _ => False
def ps_PS (aK aV : Nat) (vo : Option Nat) (vs : List Value) : Array Value → State → Prop := va_Pc vs (fun U => ps_Str aK aV vo ps_F U U.heap)
theorem ps_PS_blind (aK aV : Nat) (vo : Option Nat) (vs : List Value) : FrameBlind (ps_PS aK aV vo vs) := fun a U f mk q => ⟨q.1, ps_Str.blind q.2⟩
section PsStr
variable {p : Program} {l : Launch} {e : Env} {R : Room} {s : State} {m : MethodId} {args : Array Value} {below : List Frame} {meth : Method} {c : Code} {H : Heap} {locs : List Loc} {cells slots : Nat} {Q : State → Prop}
variable {cc bytes : ByteArray} {pc nL maxL index na : Nat} {ls : Array Slot} {rest st As : List Value}
variable {y : MethodName} {ret : Option FieldType} {Ts ws : List Cond} {rm : Room} {own : String}
/-- a call on the text -/
theorem ps_stri {aK aV : Nat} {vo : Option Nat} {post : Int32 → Prop} (S : CallFix p m c cc nL s args Ts own) (hM : Met l y ws rm (ps_PS aK aV vo (.ref aK :: As)) (vp_Si post) 0 0 (fun _ => False)) (cw : CallW R s args own "java/lang/String" index y bytes maxL ret ws rm 0 0 na)
    (hT : ps_Str aK aV vo ps_F s H) (hn : As.length = na) (hsize : ls.size = nL) (hst : st = As.reverse ++ .ref aK :: rest) (hW : (rest.map fun v => v.category).sum ≤ 8)
    (hdg : decode cc pc = .ok (.invokevirtual index, 3)) (hf : cells ≤ R.cells ∧ slots ≤ R.slots) (kk : ∀ r : Int32, post r → W p l e R s m args below meth c H locs cells slots Q (F0 m (pc + 3) ls (.int r :: rest))) : W p l e R s m args below meth c H locs cells slots Q (F0 m pc ls st) := by
  refine vp_callSi (W.runV S hM cw ⟨ps_PS_blind _ _ _ _, ?_, fun U hU hW => ⟨rfl, hT.at hU hW⟩⟩ rfl hn hsize hst (lv_room hW) hdg hf) kk
  obtain ⟨cell, h1, h2, h3, -⟩ := hT.1
  exact ⟨cell, h1, h2, h3⟩
theorem ps_strs {aK aV : Nat} {vo : Option Nat} {post : Int32 → Prop} (S : CallFix p m c cc nL s args Ts own) (hM : Met l y ws rm (ps_PS aK aV vo As) (vp_Si post) 0 0 (fun _ => False)) (cw : CallB R s args own index y bytes maxL ret ws rm 0 0 na ∧ (Cond.static y).before args s = true)
    (hT : ps_Str aK aV vo ps_F s H) (hn : As.length = na) (hsize : ls.size = nL) (hst : st = As.reverse ++ rest) (hW : (rest.map fun v => v.category).sum ≤ 8)
    (hdg : decode cc pc = .ok (.invokestatic index, 3)) (hf : cells ≤ R.cells ∧ slots ≤ R.slots) (kk : ∀ r : Int32, post r → W p l e R s m args below meth c H locs cells slots Q (F0 m (pc + 3) ls (.int r :: rest))) : W p l e R s m args below meth c H locs cells slots Q (F0 m pc ls st) :=
  vp_callSi (W.runS S hM cw ⟨ps_PS_blind _ _ _ _, fun U hU hW => ⟨rfl, hT.at hU hW⟩⟩ rfl hn hsize hst (lv_room hW) hdg hf) kk
theorem ps_strsv {aK aV : Nat} {vo : Option Nat} {post : Unit → Prop} (S : CallFix p m c cc nL s args Ts own) (hM : Met l y ws rm (ps_PS aK aV vo As) (va_Sv post) 0 0 (fun _ => False)) (cw : CallB R s args own index y bytes maxL ret ws rm 0 0 na ∧ (Cond.static y).before args s = true)
    (hT : ps_Str aK aV vo ps_F s H) (hn : As.length = na) (hsize : ls.size = nL) (hst : st = As.reverse ++ rest) (hW : (rest.map fun v => v.category).sum ≤ 8)
    (hdg : decode cc pc = .ok (.invokestatic index, 3)) (hf : cells ≤ R.cells ∧ slots ≤ R.slots) (kk : post () → W p l e R s m args below meth c H locs cells slots Q (F0 m (pc + 3) ls rest)) : W p l e R s m args below meth c H locs cells slots Q (F0 m pc ls st) :=
  va_csv (W.runS S hM cw ⟨ps_PS_blind _ _ _ _, fun U hU hW => ⟨rfl, hT.at hU hW⟩⟩ rfl hn hsize hst (lv_room hW) hdg hf) kk
end PsStr
