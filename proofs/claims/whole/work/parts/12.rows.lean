/-! WORLDS by number: cell k lies at g k and holds E k, k < n. Rows over them. -/
def ps_wl (n : Nat) (g : Nat → Nat) (E : Nat → va_E) : va_W := (List.range n).map fun k => (g k, E k)
def ps_wA (n : Nat) (g : Nat → Nat) : Nat → Prop := fun q => ∃ k, k < n ∧ q = g k
def ps_inj (n : Nat) (g : Nat → Nat) : Prop := ∀ i j, i < n → j < n → g i = g j → i = j
theorem ps_wl_len (n : Nat) (g : Nat → Nat) (E : Nat → va_E) : (ps_wl n g E).length = n := by unfold ps_wl; simp
theorem ps_wl_get {n k : Nat} {g : Nat → Nat} {E : Nat → va_E} (hk : k < n) : (ps_wl n g E)[k]? = some (g k, E k) := by
  unfold ps_wl
  rw [List.getElem?_map, List.getElem?_range hk]
  rfl
theorem ps_wl_out {n k : Nat} {g : Nat → Nat} {E : Nat → va_E} (hk : n ≤ k) : (ps_wl n g E)[k]? = none := List.getElem?_eq_none (by rw [ps_wl_len]; exact hk)
theorem ps_wl_of {n k : Nat} {g : Nat → Nat} {E : Nat → va_E} {q : Nat × va_E} (h : (ps_wl n g E)[k]? = some q) : k < n ∧ q = (g k, E k) := by
  rcases Nat.lt_or_ge k n with h1 | h1
  · rw [ps_wl_get h1] at h
    exact ⟨h1, (Option.some.inj h).symm⟩
  · rw [ps_wl_out h1] at h
    cases h
theorem ps_wl_D {n : Nat} {g : Nat → Nat} {E : Nat → va_E} (hg : ps_inj n g) : va_D (ps_wA n g) (ps_wl n g E) :=
  ⟨fun i j p q h1 h2 e => by
    obtain ⟨a, rfl⟩ := ps_wl_of h1
    obtain ⟨b, rfl⟩ := ps_wl_of h2
    exact hg i j a b e, fun k q h => by
    obtain ⟨a, rfl⟩ := ps_wl_of h
    exact ⟨k, a, rfl⟩⟩
theorem ps_wl_set {n k : Nat} {g : Nat → Nat} {E : Nat → va_E} (hk : k < n) (e : va_E) : (ps_wl n g E).set k (g k, e) = ps_wl n g (va_up E k e) := by
  apply List.ext_getElem?
  intro i
  rw [List.getElem?_set]
  by_cases h : k = i
  · subst h
    rw [if_pos rfl, if_pos (by rw [ps_wl_len]; exact hk), ps_wl_get hk, va_up_self]
  · rw [if_neg h]
    rcases Nat.lt_or_ge i n with h1 | h1
    · rw [ps_wl_get h1, ps_wl_get h1, va_up_ne _ _ (Ne.symm h)]
    · rw [ps_wl_out h1, ps_wl_out h1]
theorem ps_wl_congr {n : Nat} {g : Nat → Nat} {E E2 : Nat → va_E} (h : ∀ k, k < n → E k = E2 k) : ps_wl n g E = ps_wl n g E2 := by
  apply List.ext_getElem?
  intro i
  rcases Nat.lt_or_ge i n with h1 | h1
  · rw [ps_wl_get h1, ps_wl_get h1, h i h1]
  · rw [ps_wl_out h1, ps_wl_out h1]
theorem ps_wl_P {D : va_G} {cl : List vw_C} {n : Nat} {g : Nat → Nat} {E : Nat → va_E} {H : Heap} : va_P D cl (ps_wl n g E) H ↔ ∀ k, k < n → va_at D cl (g k, E k) H :=
  ⟨fun h k hk => h k _ (ps_wl_get hk), fun h k q hq => by
    obtain ⟨a, rfl⟩ := ps_wl_of hq
    exact h k a⟩
def ps_Pc (D : va_G) (cl : List vw_C) (tys : List (ClassId × FieldType)) (n : Nat) (g : Nat → Nat) (E : Nat → va_E) (vs : List Value) : Array Value → State → Prop :=
  va_Pc vs (fun U => va_P D cl (ps_wl n g E) U.heap ∧ va_K D cl tys U)
theorem ps_blind (D : va_G) (cl : List vw_C) (tys : List (ClassId × FieldType)) (n : Nat) (g : Nat → Nat) (E : Nat → va_E) (vs : List Value) : FrameBlind (ps_Pc D cl tys n g E vs) := fun a U f mk q => by
  obtain ⟨q0, qP, qK⟩ := q
  exact ⟨q0, qP, va_K.moved (u := U) (U := U.calling f mk a) (Vm.Alike.refl U.vm) qK⟩
def ps_Qi {S : Type} (D : va_G) (cl : List vw_C) (n : Nat) (g : Nat → Nat) (EE : S → Nat → va_E) (post : Int32 → S → Prop) : Array Value → State → Outcome → State → Prop :=
  va_Qi post (fun u t => va_P D cl (ps_wl n g (EE u)) t.heap) (ps_wA n g)
def ps_Qv {S : Type} (D : va_G) (cl : List vw_C) (n : Nat) (g : Nat → Nat) (EE : S → Nat → va_E) (post : S → Prop) : Array Value → State → Outcome → State → Prop :=
  va_Qv post (fun u t => va_P D cl (ps_wl n g (EE u)) t.heap) (ps_wA n g)
section PsRows
variable {p : Program} {l : Launch} {e : Env} {R : Room} {s : State} {m : MethodId} {args : Array Value} {below : List Frame} {meth : Method} {c : Code} {H : Heap} {locs : List Loc} {cells slots : Nat} {Q : State → Prop}
variable {cc : ByteArray} {pc : Nat} {ls : Array Slot} {rest : List Value} {D : va_G} {cl : List vw_C} {tys : List (ClassId × FieldType)} {H0 : Heap} {n : Nat} {g : Nat → Nat} {E : Nat → va_E}
theorem ps_seti {x y : Int32} (h : x = y) (k : W p l e R s m args below meth c H locs cells slots Q (F0 m pc ls (.int y :: rest))) : W p l e R s m args below meth c H locs cells slots Q (F0 m pc ls (.int x :: rest)) := by
  subst h
  exact k
theorem ps_setl {x y : Int64} (h : x = y) (k : W p l e R s m args below meth c H locs cells slots Q (F0 m pc ls (.long y :: rest))) : W p l e R s m args below meth c H locs cells slots Q (F0 m pc ls (.long x :: rest)) := by
  subst h
  exact k
theorem ps_entry {vs : List Value} {nL : Nat} (h : (lg_sl vs).length ≤ nL) (k : ∀ ls, lv_has ls nL (lv_args 0 vs) → W p l e R s m args below meth c H locs cells slots Q (F0 m 0 ls [])) : W p l e R s m args below meth c H locs cells slots Q (entryFrame m vs.toArray nL) := by
  rw [lg_entry_eq]
  exact k _ (lv_entry vs h)
/-- a field is read -/
theorem ps_get (hexec : p.tables.exec = Jvm.exec) (hb : c.code = cc) {own ref C : String} {T : u_T} {N ci index : Nat} {Ts : List Cond} (hts : ∀ w ∈ Ts, w.before args s = true) (hin : ∀ w ∈ u_ws C T N, w ∈ Ts) (hown : s.vm.findClass own = some m.cls) (hK : va_K D cl tys s) (hP : va_P D cl (ps_wl n g E) H) {k : Nat} (hk : k < n) {fs : List Value} (hE : E k = .inr (ci, fs)) (hc : cl[ci]? = some (C, T, N)) (j : Nat) (hj : j < N) (hlink : (Cond.fieldLink own index ref (T j).2.1 (T j).2.2.1).before args s = true) (hsame : ∀ x, s.fieldFound? (T j).1 (T j).2.1 (T j).2.2.1 = some x → s.fieldFound? ref (T j).2.1 (T j).2.2.1 = some x) {v : Value} (hv : fs[j]? = some v) (hdg : decode cc pc = .ok (.getfield index, 3))
    (kk : W p l e R s m args below meth c H locs cells slots Q (F0 m (pc + 3) ls (v :: rest))) : W p l e R s m args below meth c H locs cells slots Q (F0 m pc ls (.ref (g k) :: rest)) :=
  va_get hexec hb hts hin hown hK hP k (by rw [ps_wl_get hk, hE]) hc j hj hlink hsame hv hdg kk
/-- a field is written -/
theorem ps_put (hexec : p.tables.exec = Jvm.exec) (hb : c.code = cc) {own ref C : String} {T : u_T} {N ci index : Nat} {Ts : List Cond} (hts : ∀ w ∈ Ts, w.before args s = true) (hin : ∀ w ∈ u_ws C T N, w ∈ Ts) (ty0 : Nat → FieldType) (hty : ∀ k, k < N → parseFieldDescriptor (T k).2.2.1 = some (ty0 k)) (hnm : ∀ a, a < N → ∀ b, b < N → a ≠ b → (T a).2.1 ≠ (T b).2.1) (hown : s.vm.findClass own = some m.cls) (hK : va_K D cl tys s) (hg : ps_inj n g) (hP : va_P D cl (ps_wl n g E) H) (hS0 : va_S (ps_wA n g) H0 H locs) {k : Nat} (hk : k < n) {fs : List Value} (hE : E k = .inr (ci, fs)) (hc : cl[ci]? = some (C, T, N)) (j : Nat) (hj : j < N) (hlink : (Cond.fieldLink own index ref (T j).2.1 (T j).2.2.1).before args s = true) (hsame : ∀ x, s.fieldFound? (T j).1 (T j).2.1 (T j).2.2.1 = some x → s.fieldFound? ref (T j).2.1 (T j).2.2.1 = some x) (hfin : (T j).2.2.2 = false) {ty : FieldType} {v : Value} (hd : parseFieldDescriptor (T j).2.2.1 = some ty) (hn : narrow ty v = v) (hfit : fits ty v = true) (hl : j < fs.length)
    (hdg : decode cc pc = .ok (.putfield index, 3)) (E2 : Nat → va_E) (h1 : E2 k = .inr (ci, fs.set j v)) (h2 : ∀ i, i < n → i ≠ k → E2 i = E i) (kk : ∀ (H1 : Heap) (locs1 : List Loc), va_P D cl (ps_wl n g E2) H1 → va_S (ps_wA n g) H0 H1 locs1 → W p l e R s m args below meth c H1 locs1 cells slots Q (F0 m (pc + 3) ls rest)) : W p l e R s m args below meth c H locs cells slots Q (F0 m pc ls (v :: .ref (g k) :: rest)) := by
  refine va_put hexec hb hts hin ty0 hty hnm hown hK hP (ps_wl_D hg) hS0 k (by rw [ps_wl_get hk, hE]) hc j hj hlink hsame hfin hd hn hfit hl hdg (fun H1 locs1 hP1 _ hS1 => kk H1 locs1 ?_ hS1)
  rw [ps_wl_set hk] at hP1
  rw [ps_wl_congr (E := E2) (E2 := va_up E k (.inr (ci, fs.set j v))) (fun i hi => ?_)]
  · exact hP1
  · by_cases q : i = k
    · subst q; rw [va_up_self, h1]
    · rw [va_up_ne _ _ q, h2 i hi q]
theorem ps_iald (hexec : p.tables.exec = Jvm.exec) (hb : c.code = cc) (hK : va_K D cl tys s) (hP : va_P D cl (ps_wl n g E) H) {k : Nat} (hk : k < n) (t0 : Nat) {cA : ClassId} {N : Nat} {f : Nat → Int32} (hE : E k = .inl (cA, N, .inl f)) (ht : tys[t0]? = some (cA, .int)) {i : Nat} (hi : i < N) (hN : N < 2 ^ 31) (hdg : decode cc pc = .ok (.iaload, 1))
    (kk : W p l e R s m args below meth c H locs cells slots Q (F0 m (pc + 1) ls (.int (f i) :: rest))) : W p l e R s m args below meth c H locs cells slots Q (F0 m pc ls (.int (nI i) :: .ref (g k) :: rest)) := by
  refine va_iald hexec hb hK hP k t0 (by rw [ps_wl_get hk, hE]) ht (vp_in_nI hi hN) hdg ?_
  rw [nI_clamp (by omega)]
  exact kk
theorem ps_lald (hexec : p.tables.exec = Jvm.exec) (hb : c.code = cc) (hK : va_K D cl tys s) (hP : va_P D cl (ps_wl n g E) H) {k : Nat} (hk : k < n) (t0 : Nat) {cA : ClassId} {N : Nat} {f : Nat → Int64} (hE : E k = .inl (cA, N, .inr (.inl f))) (ht : tys[t0]? = some (cA, .long)) {i : Nat} (hi : i < N) (hN : N < 2 ^ 31) (hdg : decode cc pc = .ok (.laload, 1))
    (kk : W p l e R s m args below meth c H locs cells slots Q (F0 m (pc + 1) ls (.long (f i) :: rest))) : W p l e R s m args below meth c H locs cells slots Q (F0 m pc ls (.int (nI i) :: .ref (g k) :: rest)) := by
  refine va_lald hexec hb hK hP k t0 (by rw [ps_wl_get hk, hE]) ht (vp_in_nI hi hN) hdg ?_
  rw [nI_clamp (by omega)]
  exact kk
theorem ps_aald (hexec : p.tables.exec = Jvm.exec) (hb : c.code = cc) (hK : va_K D cl tys s) (hP : va_P D cl (ps_wl n g E) H) {k : Nat} (hk : k < n) (t0 : Nat) {cA : ClassId} {C : String} {N : Nat} {f : Nat → Option Nat} (hE : E k = .inl (cA, N, .inr (.inr (.inr (.inr f))))) (ht : tys[t0]? = some (cA, .object C)) {i : Nat} (hi : i < N) (hN : N < 2 ^ 31) {a : Nat} (ha : f i = some a) (hdg : decode cc pc = .ok (.aaload, 1))
    (kk : W p l e R s m args below meth c H locs cells slots Q (F0 m (pc + 1) ls (.ref a :: rest))) : W p l e R s m args below meth c H locs cells slots Q (F0 m pc ls (.int (nI i) :: .ref (g k) :: rest)) := by
  refine va_aldq hexec hb hK hP k t0 (by rw [ps_wl_get hk, hE]) ht (vp_in_nI hi hN) hdg ?_
  rw [nI_clamp (by omega), ha]
  exact kk
theorem ps_iast (hexec : p.tables.exec = Jvm.exec) (hb : c.code = cc) (hK : va_K D cl tys s) (hg : ps_inj n g) (hP : va_P D cl (ps_wl n g E) H) (hS : va_S (ps_wA n g) H0 H locs) {k : Nat} (hk : k < n) (t0 : Nat) {cA : ClassId} {N : Nat} {f : Nat → Int32} (hE : E k = .inl (cA, N, .inl f)) (ht : tys[t0]? = some (cA, .int)) {i : Nat} (hi : i < N) (hN : N < 2 ^ 31) {x : Int32} (hdg : decode cc pc = .ok (.iastore, 1))
    (E2 : Nat → va_E) (h1 : E2 k = .inl (cA, N, .inl (va_up f i x))) (h2 : ∀ j, j < n → j ≠ k → E2 j = E j)
    (kk : ∀ (H1 : Heap) (locs1 : List Loc), va_P D cl (ps_wl n g E2) H1 → va_S (ps_wA n g) H0 H1 locs1 → W p l e R s m args below meth c H1 locs1 cells slots Q (F0 m (pc + 1) ls rest)) : W p l e R s m args below meth c H locs cells slots Q (F0 m pc ls (.int x :: .int (nI i) :: .ref (g k) :: rest)) := by
  refine va_iast hexec hb hK hP (ps_wl_D hg) hS k t0 (by rw [ps_wl_get hk, hE]) ht (vp_in_nI hi hN) hdg (fun H1 locs1 hP1 _ hS1 => kk H1 locs1 ?_ hS1)
  rw [nI_clamp (by omega), ps_wl_set hk] at hP1
  rw [ps_wl_congr (E := E2) (E2 := va_up E k (.inl (cA, N, .inl (upd f i x)))) (fun j hj => ?_)]
  · exact hP1
  · by_cases q : j = k
    · subst q; rw [va_up_self, h1]; rfl
    · rw [va_up_ne _ _ q, h2 j hj q]
theorem ps_last (hexec : p.tables.exec = Jvm.exec) (hb : c.code = cc) (hK : va_K D cl tys s) (hg : ps_inj n g) (hP : va_P D cl (ps_wl n g E) H) (hS : va_S (ps_wA n g) H0 H locs) {k : Nat} (hk : k < n) (t0 : Nat) {cA : ClassId} {N : Nat} {f : Nat → Int64} (hE : E k = .inl (cA, N, .inr (.inl f))) (ht : tys[t0]? = some (cA, .long)) {i : Nat} (hi : i < N) (hN : N < 2 ^ 31) {x : Int64} (hdg : decode cc pc = .ok (.lastore, 1))
    (E2 : Nat → va_E) (h1 : E2 k = .inl (cA, N, .inr (.inl (va_up f i x)))) (h2 : ∀ j, j < n → j ≠ k → E2 j = E j)
    (kk : ∀ (H1 : Heap) (locs1 : List Loc), va_P D cl (ps_wl n g E2) H1 → va_S (ps_wA n g) H0 H1 locs1 → W p l e R s m args below meth c H1 locs1 cells slots Q (F0 m (pc + 1) ls rest)) : W p l e R s m args below meth c H locs cells slots Q (F0 m pc ls (.long x :: .int (nI i) :: .ref (g k) :: rest)) := by
  refine va_last hexec hb hK hP (ps_wl_D hg) hS k t0 (by rw [ps_wl_get hk, hE]) ht (vp_in_nI hi hN) hdg (fun H1 locs1 hP1 _ hS1 => kk H1 locs1 ?_ hS1)
  rw [nI_clamp (by omega), ps_wl_set hk] at hP1
  rw [ps_wl_congr (E := E2) (E2 := va_up E k (.inl (cA, N, .inr (.inl (vp_updL f i x))))) (fun j hj => ?_)]
  · exact hP1
  · by_cases q : j = k
    · subst q; rw [va_up_self, h1]; rfl
    · rw [va_up_ne _ _ q, h2 j hj q]
end PsRows
section PsCalls
variable {p : Program} {l : Launch} {e : Env} {R : Room} {s : State} {m : MethodId} {args : Array Value} {below : List Frame} {meth : Method} {c : Code} {H : Heap} {locs : List Loc} {cells slots : Nat} {Q : State → Prop}
variable {cc bytes : ByteArray} {pc nL maxL index na k ci N : Nat} {ls : Array Slot} {rest st As : List Value} {D : va_G} {cl : List vw_C} {tys : List (ClassId × FieldType)} {H0 : Heap} {n : Nat} {g : Nat → Nat} {E : Nat → va_E}
variable {y : MethodName} {ret : Option FieldType} {Ts ws : List Cond} {rm : Room} {own C : String} {T : u_T} {fs : List Value}
theorem ps_recv (hK : va_K D cl tys s) (hP : va_P D cl (ps_wl n g E) H) (hk : k < n) (hE : E k = .inr (ci, fs)) (hc : cl[ci]? = some (C, T, N)) : ∃ cell : Cell, H[g k]? = some cell ∧ cell.vm.isStatics = false ∧ s.vm.findClass C = some cell.cls :=
  va_recv hK hP hc (q0 := k) (by rw [ps_wl_get hk, hE])
/-- a method that only reads: int -/
theorem ps_roi {post : Int32 → Prop} (S : CallFix p m c cc nL s args Ts own) (hM : Met l y ws rm (ps_Pc D cl tys n g E (.ref (g k) :: As)) (vp_Si post) 0 0 (fun _ => False)) (cw : CallW R s args own C index y bytes maxL ret ws rm 0 0 na)
    (hK : va_K D cl tys s) (hP : va_P D cl (ps_wl n g E) H) (hk : k < n) (hE : E k = .inr (ci, fs)) (hc : cl[ci]? = some (C, T, N)) (hn : As.length = na) (hsize : ls.size = nL) (hst : st = As.reverse ++ .ref (g k) :: rest) (hW : (rest.map fun v => v.category).sum ≤ 8)
    (hdg : decode cc pc = .ok (.invokevirtual index, 3)) (hf : cells ≤ R.cells ∧ slots ≤ R.slots) (kk : ∀ r : Int32, post r → W p l e R s m args below meth c H locs cells slots Q (F0 m (pc + 3) ls (.int r :: rest))) : W p l e R s m args below meth c H locs cells slots Q (F0 m pc ls st) := by
  refine vp_callSi (W.runV S hM cw ⟨ps_blind _ _ _ _ _ _ _, ps_recv hK hP hk hE hc, fun U hU hW => ⟨rfl, by rw [hU]; exact hP, va_K.moved hW.alike hK⟩⟩ rfl hn hsize hst (lv_room hW) hdg hf) kk
/-- a method that only reads: one of the things, or null -/
theorem ps_roq {post : Option Nat → Prop} (S : CallFix p m c cc nL s args Ts own) (hM : Met l y ws rm (ps_Pc D cl tys n g E (.ref (g k) :: As)) (va_Sq post) 0 0 (fun _ => False)) (cw : CallW R s args own C index y bytes maxL ret ws rm 0 0 na)
    (hK : va_K D cl tys s) (hP : va_P D cl (ps_wl n g E) H) (hk : k < n) (hE : E k = .inr (ci, fs)) (hc : cl[ci]? = some (C, T, N)) (hn : As.length = na) (hsize : ls.size = nL) (hst : st = As.reverse ++ .ref (g k) :: rest) (hW : (rest.map fun v => v.category).sum ≤ 8)
    (hdg : decode cc pc = .ok (.invokevirtual index, 3)) (hf : cells ≤ R.cells ∧ slots ≤ R.slots) (kk : ∀ r : Option Nat, post r → W p l e R s m args below meth c H locs cells slots Q (F0 m (pc + 3) ls (va_rf r :: rest))) : W p l e R s m args below meth c H locs cells slots Q (F0 m pc ls st) := by
  refine va_csq (W.runV S hM cw ⟨ps_blind _ _ _ _ _ _ _, ps_recv hK hP hk hE hc, fun U hU hW => ⟨rfl, by rw [hU]; exact hP, va_K.moved hW.alike hK⟩⟩ rfl hn hsize hst (lv_room hW) hdg hf) kk
/-- a method that writes: int -/
theorem ps_wri {A0 : Nat → Prop} {σ : Type} {EE : σ → Nat → va_E} {post : Int32 → σ → Prop} (S : CallFix p m c cc nL s args Ts own) (hM : Met l y ws rm (ps_Pc D cl tys n g E (.ref (g k) :: As)) (ps_Qi D cl n g EE post) 0 0 (ps_wA n g)) (cw : CallW R s args own C index y bytes maxL ret ws rm 0 0 na)
    (hK : va_K D cl tys s) (hP : va_P D cl (ps_wl n g E) H) (hS : va_S A0 H0 H locs) (hA : ∀ q, ps_wA n g q → A0 q) (hk : k < n) (hE : E k = .inr (ci, fs)) (hc : cl[ci]? = some (C, T, N)) (hn : As.length = na) (hsize : ls.size = nL) (hst : st = As.reverse ++ .ref (g k) :: rest) (hW : (rest.map fun v => v.category).sum ≤ 8)
    (hdg : decode cc pc = .ok (.invokevirtual index, 3)) (hf : cells ≤ R.cells ∧ slots ≤ R.slots) (kk : ∀ (r : Int32) (u : σ) (H1 : Heap) (locs1 : List Loc), post r u → va_P D cl (ps_wl n g (EE u)) H1 → va_S A0 H0 H1 locs1 → (∀ q : Nat, q < H.size → ¬ ps_wA n g q → H1[q]? = H[q]?) → W p l e R s m args below meth c H1 locs1 cells slots Q (F0 m (pc + 3) ls (.int r :: rest))) : W p l e R s m args below meth c H locs cells slots Q (F0 m pc ls st) := by
  refine va_calli (mc := 0) (ms := 0) (va_runV S hM cw ⟨ps_blind _ _ _ _ _ _ _, ps_recv hK hP hk hE hc, fun U hU hW => ⟨rfl, by rw [hU]; exact hP, va_K.moved hW.alike hK⟩⟩ rfl hn hsize hst (lv_room hW) hdg hf) hS (fun q _ h => hA q h) hA (fun r u t H1 locs1 ht _ hp hB _ hk1 hS1 => ?_)
  rw [ht] at hB
  exact kk r u H1 locs1 hp hB hS1 hk1
/-- a method that writes: nothing comes back -/
theorem ps_wrv {A0 : Nat → Prop} {σ : Type} {EE : σ → Nat → va_E} {post : σ → Prop} (S : CallFix p m c cc nL s args Ts own) (hM : Met l y ws rm (ps_Pc D cl tys n g E (.ref (g k) :: As)) (ps_Qv D cl n g EE post) 0 0 (ps_wA n g)) (cw : CallW R s args own C index y bytes maxL ret ws rm 0 0 na)
    (hK : va_K D cl tys s) (hP : va_P D cl (ps_wl n g E) H) (hS : va_S A0 H0 H locs) (hA : ∀ q, ps_wA n g q → A0 q) (hk : k < n) (hE : E k = .inr (ci, fs)) (hc : cl[ci]? = some (C, T, N)) (hn : As.length = na) (hsize : ls.size = nL) (hst : st = As.reverse ++ .ref (g k) :: rest) (hW : (rest.map fun v => v.category).sum ≤ 8)
    (hdg : decode cc pc = .ok (.invokevirtual index, 3)) (hf : cells ≤ R.cells ∧ slots ≤ R.slots) (kk : ∀ (u : σ) (H1 : Heap) (locs1 : List Loc), post u → va_P D cl (ps_wl n g (EE u)) H1 → va_S A0 H0 H1 locs1 → (∀ q : Nat, q < H.size → ¬ ps_wA n g q → H1[q]? = H[q]?) → W p l e R s m args below meth c H1 locs1 cells slots Q (F0 m (pc + 3) ls rest)) : W p l e R s m args below meth c H locs cells slots Q (F0 m pc ls st) := by
  refine va_callv (mc := 0) (ms := 0) (va_runV S hM cw ⟨ps_blind _ _ _ _ _ _ _, ps_recv hK hP hk hE hc, fun U hU hW => ⟨rfl, by rw [hU]; exact hP, va_K.moved hW.alike hK⟩⟩ rfl hn hsize hst (lv_room hW) hdg hf) hS (fun q _ h => hA q h) hA (fun u t H1 locs1 ht _ hp hB _ hk1 hS1 => ?_)
  rw [ht] at hB
  exact kk u H1 locs1 hp hB hS1 hk1
/-- a static method of numbers -/
theorem ps_sti {post : Int32 → Prop} (S : CallFix p m c cc nL s args Ts own) (hM : Met l y ws rm (va_Pc As (fun _ => True)) (vp_Si post) 0 0 (fun _ => False)) (cw : CallB R s args own index y bytes maxL ret ws rm 0 0 na ∧ (Cond.static y).before args s = true)
    (hn : As.length = na) (hsize : ls.size = nL) (hst : st = As.reverse ++ rest) (hW : (rest.map fun v => v.category).sum ≤ 8)
    (hdg : decode cc pc = .ok (.invokestatic index, 3)) (hf : cells ≤ R.cells ∧ slots ≤ R.slots) (kk : ∀ r : Int32, post r → W p l e R s m args below meth c H locs cells slots Q (F0 m (pc + 3) ls (.int r :: rest))) : W p l e R s m args below meth c H locs cells slots Q (F0 m pc ls st) := by
  refine vp_callSi (W.runS S hM cw ⟨fun a U f mk q => ⟨q.1, trivial⟩, fun U hU hW => ⟨rfl, trivial⟩⟩ rfl hn hsize hst (lv_room hW) hdg hf) kk
end PsCalls
section PsMet
variable {l : Launch} {y : MethodName} {ws' : List Cond} {rm : Room} {Pc : Array Value → State → Prop} {Qc : Array Value → State → Outcome → State → Prop} {mc ms : Nat} {free : Addr → Prop} {cc : ByteArray} {maxL : Nat} {ret : Option FieldType}
theorem ps_met (hy : plainName y.cls = true)
    (body : ∀ (p : Program) (e : Env) (s : State) (m : MethodId) (args : Array Value) (below : List Frame) (meth : Method) (c : Code), p.tables.exec = Jvm.exec → c.code = cc → meth.sig.returnType = ret → c.maxLocals = maxL → (∀ w ∈ (Cond.code y cc maxL ret :: ws'), w.before args s = true) → s.vm.findClass y.cls = some m.cls → meth.locks = false → meth.name = y.name → Pc args s →
      ∀ Q, Q = MQ below Qc args s mc ms free → W p l e rm s m args below meth c s.heap [] 0 0 Q (entryFrame m args maxL)) : Met l y (Cond.code y cc maxL ret :: ws') rm Pc Qc mc ms free := by
  refine Met.ofW (cc := cc) (maxL := maxL) (ret := ret) hy rfl ?_
  intro p e s m args below meth c s₁ B hml hv
  exact body p e s m args below meth c B.exec B.bytes B.returns hml (atoms_spec (ws := Cond.code y cc maxL ret :: ws') B.pre) (findClass_of_methodNamed B.named) B.notSynchronized (name_of_methodNamed B.named B.method).1 hv _ rfl
end PsMet
section PsEnt
variable {p : Program} {l : Launch} {e : Env} {R : Room} {s : State} {m : MethodId} {args : Array Value} {below : List Frame} {meth : Method} {c : Code} {H : Heap} {locs : List Loc} {cells slots : Nat} {Q : State → Prop}
theorem ps_enter {vs : List Value} {nL : Nat} (ha : args = vs.toArray) (h : (lg_sl vs).length ≤ nL) (k : ∀ ls, lv_has ls nL (lv_args 0 vs) → W p l e R s m args below meth c H locs cells slots Q (F0 m 0 ls [])) : W p l e R s m args below meth c H locs cells slots Q (entryFrame m args nL) := by
  have e1 : entryFrame m args nL = F0 m 0 ((lg_sl vs ++ List.replicate (nL - (lg_sl vs).length) Slot.unset).toArray) [] := by rw [ha, lg_entry_eq]
  rw [e1]
  exact k _ (lv_entry vs h)
end PsEnt
