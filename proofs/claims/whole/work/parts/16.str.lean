/-! the one text constant that is read: "bytes=" -/
def ps_hb (j : Nat) : Int32 := ([98, 121, 116, 101, 115, 61] : List Int32).getD j 0
def ps_Str (aK aV : Nat) (vo : Option Nat) (A : Nat → Prop) (U : State) (H : Heap) : Prop :=
  va_O "java/lang/String" aK A U H ∧ va_OF "java/lang/String" "coder" "B" (.int 0) aK A U H ∧ va_OF "java/lang/String" "value" "[B" (.ref aV) aK A U H ∧ va_T .byte aV 6 (fun j => .int (ps_hb j)) A U H ∧ va_Z "java/lang/String" "COMPACT_STRINGS" "Z" (.int 1) A U H ∧ va_Z "jdk/internal/util/Preconditions" "SIOOBE_FORMATTER" "Ljava/util/function/BiFunction;" (va_rf vo) A U H ∧ vk_R "PieceShelf$Tape" 33 "bytes=" aK U
theorem ps_Str.warm {aK aV : Nat} {vo : Option Nat} {A : Nat → Prop} {s U : State} {H : Heap} (hW : s.WarmedH U.vm) (h : ps_Str aK aV vo A s H) : ps_Str aK aV vo A U H := by
  obtain ⟨h1, h2, h3, h4, h5, h6, h7⟩ := h
  exact ⟨h1.moved hW.alike, h2.moved hW.alike, h3.moved hW.alike, h4.moved hW.alike, h5.moved hW.alike, h6.moved hW.alike, h7.warm hW⟩
theorem ps_Str.blind {aK aV : Nat} {vo : Option Nat} {A : Nat → Prop} {U : State} {g : JFrame} {mk : MethodId} {a : Array Value} (h : ps_Str aK aV vo A U U.heap) : ps_Str aK aV vo A (U.calling g mk a) (U.calling g mk a).heap := by
  obtain ⟨h1, h2, h3, h4, h5, h6, h7⟩ := h
  have r : U.vm.Alike (U.calling g mk a).vm := Vm.Alike.refl U.vm
  exact ⟨va_O.moved r h1, va_OF.moved r h2, va_OF.moved r h3, va_T.moved r h4, va_Z.moved r h5, va_Z.moved r h6, vk_R.same (u := U) rfl h7⟩
theorem ps_Str.kept {aK aV : Nat} {vo : Option Nat} {A : Nat → Prop} {U : State} {H H1 : Heap} (h : ps_Str aK aV vo A U H) (hq : ∀ a : Nat, a < H.size → ¬ A a → H1[a]? = H[a]?) : ps_Str aK aV vo A U H1 := by
  obtain ⟨h1, h2, h3, h4, h5, h6, h7⟩ := h
  exact ⟨h1.kept hq, h2.kept hq, h3.kept hq, h4.kept hq, h5.kept hq, h6.kept hq, h7⟩
theorem ps_Str.narrow {aK aV : Nat} {vo : Option Nat} {A B : Nat → Prop} {U : State} {H : Heap} (h : ps_Str aK aV vo A U H) (hAB : ∀ q, B q → A q) : ps_Str aK aV vo B U H := by
  obtain ⟨h1, h2, h3, h4, h5, h6, h7⟩ := h
  exact ⟨h1.narrow hAB, h2.narrow hAB, h3.narrow hAB, h4.narrow hAB, h5.narrow hAB, h6.narrow hAB, h7⟩
theorem ps_Str.at {aK aV : Nat} {vo : Option Nat} {A : Nat → Prop} {s U : State} {H : Heap} (hU : U.heap = H) (hW : s.WarmedH U.vm) (h : ps_Str aK aV vo A s H) : ps_Str aK aV vo A U U.heap := by rw [hU]; exact h.warm hW
abbrev ps_F : Nat → Prop := fun _ => False
def ps_PS (aK aV : Nat) (vo : Option Nat) (vs : List Value) : Array Value → State → Prop := va_Pc vs (fun U => ps_Str aK aV vo ps_F U U.heap)
theorem ps_PS_blind (aK aV : Nat) (vo : Option Nat) (vs : List Value) : FrameBlind (ps_PS aK aV vo vs) := fun a U f mk q => ⟨q.1, ps_Str.blind q.2⟩
section PsStr
variable {p : Program} {l : Launch} {e : Env} {R : Room} {s : State} {m : MethodId} {args : Array Value} {below : List Frame} {meth : Method} {c : Code} {H : Heap} {locs : List Loc} {cells slots : Nat} {Q : State → Prop}
variable {cc bytes : ByteArray} {pc nL maxL index na : Nat} {ls : Array Slot} {rest st As : List Value}
variable {y : MethodName} {ret : Option FieldType} {Ts ws : List Cond} {rm : Room} {own : String}
/-- a call on the text -/
theorem ps_stri {aK aV : Nat} {vo : Option Nat} {post : Int32 → Prop} (S : CallFix p m c cc nL s args Ts own) (hM : Met l y ws rm (ps_PS aK aV vo (.ref aK :: As)) (vp_Si post) 0 0 (fun _ => False)) (cw : CallW R s args own "java/lang/String" index y bytes maxL ret ws rm 0 0 na)
    (hT : ps_Str aK aV vo ps_F s H) (hn : As.length = na) (hsize : ls.size = nL) (hst : st = As.reverse ++ .ref aK :: rest) (hW : (rest.map fun v => v.category).sum ≤ 8)
    (hdg : decode cc pc = .ok (.invokevirtual index, 3)) (hf : cells ≤ R.cells ∧ slots ≤ R.slots) (kk : ∀ r : Int32, post r → W p l e R s m args below meth c H locs cells slots Q (F0 m (pc + 3) ls (.int r :: rest))) : W p l e R s m args below meth c H locs cells slots Q (F0 m pc ls st) := by
  refine vp_callSi (W.runV S hM cw ⟨ps_PS_blind _ _ _ _, ?_, fun U hU hW => ⟨rfl, hT.at hU hW⟩⟩ rfl hn hsize hst (lv_room hW) hdg hf) kk
  obtain ⟨cell, h1, h2, h3, -⟩ := hT.1
  exact ⟨cell, h1, h2, h3⟩
theorem ps_strs {aK aV : Nat} {vo : Option Nat} {post : Int32 → Prop} (S : CallFix p m c cc nL s args Ts own) (hM : Met l y ws rm (ps_PS aK aV vo As) (vp_Si post) 0 0 (fun _ => False)) (cw : CallB R s args own index y bytes maxL ret ws rm 0 0 na ∧ (Cond.static y).before args s = true)
    (hT : ps_Str aK aV vo ps_F s H) (hn : As.length = na) (hsize : ls.size = nL) (hst : st = As.reverse ++ rest) (hW : (rest.map fun v => v.category).sum ≤ 8)
    (hdg : decode cc pc = .ok (.invokestatic index, 3)) (hf : cells ≤ R.cells ∧ slots ≤ R.slots) (kk : ∀ r : Int32, post r → W p l e R s m args below meth c H locs cells slots Q (F0 m (pc + 3) ls (.int r :: rest))) : W p l e R s m args below meth c H locs cells slots Q (F0 m pc ls st) :=
  vp_callSi (W.runS S hM cw ⟨ps_PS_blind _ _ _ _, fun U hU hW => ⟨rfl, hT.at hU hW⟩⟩ rfl hn hsize hst (lv_room hW) hdg hf) kk
theorem ps_strsv {aK aV : Nat} {vo : Option Nat} {post : Unit → Prop} (S : CallFix p m c cc nL s args Ts own) (hM : Met l y ws rm (ps_PS aK aV vo As) (va_Sv post) 0 0 (fun _ => False)) (cw : CallB R s args own index y bytes maxL ret ws rm 0 0 na ∧ (Cond.static y).before args s = true)
    (hT : ps_Str aK aV vo ps_F s H) (hn : As.length = na) (hsize : ls.size = nL) (hst : st = As.reverse ++ rest) (hW : (rest.map fun v => v.category).sum ≤ 8)
    (hdg : decode cc pc = .ok (.invokestatic index, 3)) (hf : cells ≤ R.cells ∧ slots ≤ R.slots) (kk : post () → W p l e R s m args below meth c H locs cells slots Q (F0 m (pc + 3) ls rest)) : W p l e R s m args below meth c H locs cells slots Q (F0 m pc ls st) :=
  va_csv (W.runS S hM cw ⟨ps_PS_blind _ _ _ _, fun U hU hW => ⟨rfl, hT.at hU hW⟩⟩ rfl hn hsize hst (lv_room hW) hdg hf) kk
end PsStr
def ps_PcS (D : va_G) (cl : List vw_C) (tys : List (ClassId × FieldType)) (n : Nat) (g : Nat → Nat) (E : Nat → va_E) (aK aV : Nat) (vo : Option Nat) (vs : List Value) : Array Value → State → Prop :=
  va_Pc vs (fun U => (va_P D cl (ps_wl n g E) U.heap ∧ va_K D cl tys U) ∧ ps_Str aK aV vo ps_F U U.heap)
theorem ps_blindS (D : va_G) (cl : List vw_C) (tys : List (ClassId × FieldType)) (n : Nat) (g : Nat → Nat) (E : Nat → va_E) (aK aV : Nat) (vo : Option Nat) (vs : List Value) : FrameBlind (ps_PcS D cl tys n g E aK aV vo vs) := fun a U f mk q => by
  obtain ⟨q0, ⟨qP, qK⟩, qS⟩ := q
  exact ⟨q0, ⟨qP, va_K.moved (u := U) (U := U.calling f mk a) (Vm.Alike.refl U.vm) qK⟩, ps_Str.blind qS⟩
section PsCallsS
variable {p : Program} {l : Launch} {e : Env} {R : Room} {s : State} {m : MethodId} {args : Array Value} {below : List Frame} {meth : Method} {c : Code} {H : Heap} {locs : List Loc} {cells slots : Nat} {Q : State → Prop}
variable {cc bytes : ByteArray} {pc nL maxL index na k ci N : Nat} {ls : Array Slot} {rest st As : List Value} {D : va_G} {cl : List vw_C} {tys : List (ClassId × FieldType)} {H0 : Heap} {n : Nat} {g : Nat → Nat} {E : Nat → va_E}
variable {y : MethodName} {ret : Option FieldType} {Ts ws : List Cond} {rm : Room} {own C : String} {T : u_T} {fs : List Value} {aK aV : Nat} {vo : Option Nat}
theorem ps_roiS {post : Int32 → Prop} (S : CallFix p m c cc nL s args Ts own) (hM : Met l y ws rm (ps_PcS D cl tys n g E aK aV vo (.ref (g k) :: As)) (vp_Si post) 0 0 (fun _ => False)) (cw : CallW R s args own C index y bytes maxL ret ws rm 0 0 na)
    (hT0 : ps_Str aK aV vo ps_F s H) (hK : va_K D cl tys s) (hP : va_P D cl (ps_wl n g E) H) (hk : k < n) (hE : E k = .inr (ci, fs)) (hc : cl[ci]? = some (C, T, N)) (hn : As.length = na) (hsize : ls.size = nL) (hst : st = As.reverse ++ .ref (g k) :: rest) (hW : (rest.map fun v => v.category).sum ≤ 8)
    (hdg : decode cc pc = .ok (.invokevirtual index, 3)) (hf : cells ≤ R.cells ∧ slots ≤ R.slots) (kk : ∀ r : Int32, post r → W p l e R s m args below meth c H locs cells slots Q (F0 m (pc + 3) ls (.int r :: rest))) : W p l e R s m args below meth c H locs cells slots Q (F0 m pc ls st) := by
  refine vp_callSi (W.runV S hM cw ⟨ps_blindS _ _ _ _ _ _ _ _ _ _, ps_recv hK hP hk hE hc, fun U hU hW => ⟨rfl, ⟨by rw [hU]; exact hP, va_K.moved hW.alike hK⟩, hT0.at hU hW⟩⟩ rfl hn hsize hst (lv_room hW) hdg hf) kk
theorem ps_wriS {A0 : Nat → Prop} {σ : Type} {EE : σ → Nat → va_E} {post : Int32 → σ → Prop} (S : CallFix p m c cc nL s args Ts own) (hM : Met l y ws rm (ps_PcS D cl tys n g E aK aV vo (.ref (g k) :: As)) (ps_Qi D cl n g EE post) 0 0 (ps_wA n g)) (cw : CallW R s args own C index y bytes maxL ret ws rm 0 0 na)
    (hT0 : ps_Str aK aV vo ps_F s H) (hK : va_K D cl tys s) (hP : va_P D cl (ps_wl n g E) H) (hS : va_S A0 H0 H locs) (hA : ∀ q, ps_wA n g q → A0 q) (hk : k < n) (hE : E k = .inr (ci, fs)) (hc : cl[ci]? = some (C, T, N)) (hn : As.length = na) (hsize : ls.size = nL) (hst : st = As.reverse ++ .ref (g k) :: rest) (hW : (rest.map fun v => v.category).sum ≤ 8)
    (hdg : decode cc pc = .ok (.invokevirtual index, 3)) (hf : cells ≤ R.cells ∧ slots ≤ R.slots) (kk : ∀ (r : Int32) (u : σ) (H1 : Heap) (locs1 : List Loc), post r u → va_P D cl (ps_wl n g (EE u)) H1 → va_S A0 H0 H1 locs1 → (∀ q : Nat, q < H.size → ¬ ps_wA n g q → H1[q]? = H[q]?) → W p l e R s m args below meth c H1 locs1 cells slots Q (F0 m (pc + 3) ls (.int r :: rest))) : W p l e R s m args below meth c H locs cells slots Q (F0 m pc ls st) := by
  refine va_calli (mc := 0) (ms := 0) (va_runV S hM cw ⟨ps_blindS _ _ _ _ _ _ _ _ _ _, ps_recv hK hP hk hE hc, fun U hU hW => ⟨rfl, ⟨by rw [hU]; exact hP, va_K.moved hW.alike hK⟩, hT0.at hU hW⟩⟩ rfl hn hsize hst (lv_room hW) hdg hf) hS (fun q _ h => hA q h) hA (fun r u t H1 locs1 ht _ hp hB _ hk1 hS1 => ?_)
  rw [ht] at hB
  exact kk r u H1 locs1 hp hB hS1 hk1
end PsCallsS
/-! a text's parts -/
def ps_rdF (f : Nat → Int32) (n : Nat) : Nat → Nat → Option (List (Int32 × Int32))
  | 0, _ => none
  | c + 1, a => match ps_rp f n a with
    | none => none
    | some (e, lo, hi) => if e = n then some [(lo, hi)] else if ps_sg f n e = nI 44 then (ps_rdF f n c (e + 1)).map (fun L => (lo, hi) :: L) else none
def ps_hh (f : Nat → Int32) (n : Nat) : Prop := ∀ j, j < 6 → ps_sg f n j = ps_hb j
theorem ps_rdF_none {f : Nat → Int32} {n c a : Nat} (h : ps_rp f n a = none) : ps_rdF f n c a = none := by
  cases c with
  | zero => rfl
  | succ c => rw [ps_rdF, h]
theorem ps_rdF_last {f : Nat → Int32} {n c a : Nat} {lo hi : Int32} (hc : 0 < c) (h : ps_rp f n a = some (n, lo, hi)) : ps_rdF f n c a = some [(lo, hi)] := by
  obtain ⟨c, rfl⟩ : ∃ z, c = z + 1 := ⟨c - 1, by omega⟩
  rw [ps_rdF, h]
  exact if_pos rfl
theorem ps_rdF_stop {f : Nat → Int32} {n c a e : Nat} {lo hi : Int32} (h : ps_rp f n a = some (e, lo, hi)) (hn : ¬ e = n) (hs : ¬ ps_sg f n e = nI 44) : ps_rdF f n c a = none := by
  cases c with
  | zero => rfl
  | succ c =>
    rw [ps_rdF, h]
    show (if e = n then _ else _) = none
    rw [if_neg hn, if_neg hs]
theorem ps_rdF_more {f : Nat → Int32} {n c a e : Nat} {lo hi : Int32} (hc : 0 < c) (h : ps_rp f n a = some (e, lo, hi)) (hn : ¬ e = n) (hs : ps_sg f n e = nI 44) : ps_rdF f n c a = (ps_rdF f n (c - 1) (e + 1)).map (fun L => (lo, hi) :: L) := by
  obtain ⟨c, rfl⟩ : ∃ z, c = z + 1 := ⟨c - 1, by omega⟩
  rw [ps_rdF, h]
  show (if e = n then _ else _) = _
  rw [if_neg hn, if_pos hs]
  rfl
theorem ps_sg_lt {f : Nat → Int32} {n e : Nat} {v : Int32} (h : ps_sg f n e = v) (hv : ¬ v = -1) : e < n := by
  unfold ps_sg at h
  split at h
  · assumption
  · exact absurd h.symm hv
theorem ps_A43 {σ : ps_σ} {f h : Nat → Int32} : ps_upA (ps_upA σ 4 f) 3 h = ps_upA (ps_upA σ 3 h) 4 f := by
  unfold ps_upA
  rw [show va_up (va_up σ.2.2.1 4 f) 3 h = va_up (va_up σ.2.2.1 3 h) 4 f from funext (fun j => by unfold va_up; by_cases a : j = 3 <;> by_cases b : j = 4 <;> simp_all)]
theorem ps_nI_m1 {n : Nat} (hn : n < 2 ^ 31) : ¬ nI n = -1 := fun h => by
  have a := nI_toInt hn
  rw [h] at a
  have b : (-1 : Int32).toInt = -1 := by decide
  omega
theorem ps_pt_add {P : List (Int32 × Int32)} {fb fh : Nat → Int32} {k : Nat} {lo hi : Int32} (hpl : P.length = k) (h : ∀ i, (hi : i < P.length) → fb i = P[i].1 ∧ fh i = P[i].2) : ∀ i, (hj : i < (P ++ [(lo, hi)]).length) → va_up fb k lo i = (P ++ [(lo, hi)])[i].1 ∧ va_up fh k hi i = (P ++ [(lo, hi)])[i].2 := by
  intro i hj
  rcases Nat.lt_or_ge i P.length with z | z
  · rw [va_up_ne _ _ (by omega), va_up_ne _ _ (by omega), List.getElem_append_left z]
    exact h i z
  · have e : i = k := by
      rw [List.length_append, List.length_singleton] at hj
      omega
    subst e
    rw [va_up_self, va_up_self]
    simp [hpl]
theorem ps_rp_lt {f : Nat → Int32} {n a e : Nat} {lo hi : Int32} (ha : a ≤ 60) (h : ps_rp f n a = some (e, lo, hi)) : e < 2 ^ 30 := by
  unfold ps_rp at h
  split at h
  · split at h
    · cases h
    · have h1 := ps_edF_ge f n 5 a
      have h2 := ps_edF_ge f n 5 (ps_edF f n 5 a + 1)
      have := (Option.some.inj h)
      have e1 : ps_edF f n 5 (ps_edF f n 5 a + 1) = e := congrArg (fun z => z.1) this
      omega
  · cases h
