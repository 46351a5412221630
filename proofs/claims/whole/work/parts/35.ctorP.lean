/-! constructors -/
def ps_A (a sz : Nat) : Nat → Prop := fun q => q = a ∨ sz ≤ q
def ps_Cc (D : va_G) (cl : List vw_C) (tys : List (ClassId × FieldType)) (ci : Nat) (fs : List Value) (a sz : Nat) : Array Value → State → Prop :=
  va_Pc [.ref a] (fun U => U.heap.size = sz ∧ va_P D cl [(a, .inr (ci, fs))] U.heap ∧ va_K D cl tys U)
def ps_Cq (D : va_G) (cl : List vw_C) (a sz : Nat) (ww : (Nat → Nat) → va_W) : Array Value → State → Outcome → State → Prop :=
  va_Qv (S := Nat → Nat) (fun g => g 0 = a) (fun g t => va_P D cl (ww g) t.heap ∧ va_D (ps_A a sz) (ww g)) (ps_A a sz)
def ps_gl (l : List Nat) (k : Nat) : Nat := l.getD k 0
theorem ps_Cblind (D : va_G) (cl : List vw_C) (tys : List (ClassId × FieldType)) (ci : Nat) (fs : List Value) (a sz : Nat) : FrameBlind (ps_Cc D cl tys ci fs a sz) := fun ar U f mk q => by
  obtain ⟨q0, q1, qP, qK⟩ := q
  exact ⟨q0, q1, qP, va_K.moved (u := U) (U := U.calling f mk ar) (Vm.Alike.refl U.vm) qK⟩
theorem ps_D1 {A : Nat → Prop} {a : Nat} {e : va_E} (h : A a) : va_D A [(a, e)] := ⟨fun i j p q h1 h2 _ => by
    have z1 : i < 1 := (List.getElem?_eq_some_iff.mp h1).1
    have z2 : j < 1 := (List.getElem?_eq_some_iff.mp h2).1
    omega, fun k q h1 => by
    have z1 : k < 1 := (List.getElem?_eq_some_iff.mp h1).1
    rw [show k = 0 by omega] at h1
    cases h1
    exact h⟩
theorem ps_RA_inj {U : State} {c1 c2 : ClassId} {ty : FieldType} (h1 : va_RA U c1 ty) (h2 : va_RA U c2 ty) : c1 = c2 := by
  cases ty with
  | object C =>
    obtain ⟨_, _, _, _, _, a⟩ := h1
    obtain ⟨_, _, _, _, _, b⟩ := h2
    exact Option.some.inj (a.symm.trans b)
  | _ => exact Option.some.inj (Eq.trans (Eq.symm h1) h2)
section PsCtor
variable {p : Program} {l : Launch} {e : Env} {R : Room} {s : State} {m : MethodId} {args : Array Value} {below : List Frame} {meth : Method} {c : Code} {H : Heap} {locs : List Loc} {cells slots : Nat} {Q : State → Prop}
variable {cc bytes : ByteArray} {pc nL maxL index na ci : Nat} {ls : Array Slot} {rest st As : List Value} {D : va_G} {cl : List vw_C} {tys : List (ClassId × FieldType)} {H0 : Heap} {A : Nat → Prop} {ws w0 : va_W}
variable {y : MethodName} {Ts wsy : List Cond} {rm : Room} {own : String}
theorem ps_newa (hexec : p.tables.exec = Jvm.exec) (hb : c.code = cc) {atype : ArrayType} (harr : (Cond.arrayClass (newarray.typeOf atype)).before args s = true) {ty : FieldType} (hty : newarray.typeOf atype = ty) (hK : va_K D cl tys s) {t0 : Nat} {c0 : ClassId} (ht0 : tys[t0]? = some (c0, ty)) (hP : va_P D cl ws H) (hD : va_D A ws) (hS : va_S A H0 H locs) (hA : ∀ q, H0.size ≤ q → A q)
    {n : Int32} {N' : Nat} {a0 : vp_A} (ha : ∀ cA : ClassId, vp_cell cA a0 = arrV cA N' (fun _ => defaultValue ty)) (hn : ¬ n < 0) (hN : n.toNatClampNeg = N') (hbytes : N' * componentBytes ty ≤ 536870912) (hcells : cells + 1 ≤ R.cells) (hslots : slots + N' ≤ R.slots) (hdg : decode cc pc = .ok (.newarray atype, 2))
    (kk : ∀ (q : Nat) (H1 : Heap), va_P D cl (ws ++ [(q, .inl (c0, a0))]) H1 → va_D A (ws ++ [(q, .inl (c0, a0))]) → va_S A H0 H1 locs →
      W p l e R s m args below meth c H1 locs (cells + 1) (slots + N') Q (F0 m (pc + 2) ls (.ref q :: rest))) : W p l e R s m args below meth c H locs cells slots Q (F0 m pc ls (.int n :: rest)) := by
  refine va_newa hexec hb harr hty hK hP hD hS hA ha hn hN hbytes hcells hslots hdg (fun q cA H1 hK1 hP1 hD1 hS1 => ?_)
  have e1 : cA = c0 := ps_RA_inj (hK1.2 tys.length (cA, ty) (by simp)).2 (hK.2 t0 _ ht0).2
  subst e1
  exact kk q H1 hP1 hD1 hS1
theorem ps_newq (hexec : p.tables.exec = Jvm.exec) (hb : c.code = cc) {C : String} (hown : s.vm.findClass own = some m.cls) (hclink : (Cond.classLink own index C).before args s = true) (hover : va_AO C s) (hK : va_K D cl tys s) {t0 : Nat} {c0 : ClassId} (ht0 : tys[t0]? = some (c0, .object C)) (hP : va_P D cl ws H) (hD : va_D A ws) (hS : va_S A H0 H locs) (hA : ∀ q, H0.size ≤ q → A q)
    {n : Int32} {N' : Nat} (hn : ¬ n < 0) (hN : n.toNatClampNeg = N') (hbytes : N' * 4 ≤ 536870912) (hcells : cells + 1 ≤ R.cells) (hslots : slots + N' ≤ R.slots) (hdg : decode cc pc = .ok (.anewarray index, 3))
    (kk : ∀ (q : Nat) (H1 : Heap), va_P D cl (ws ++ [(q, .inl (c0, N', .inr (.inr (.inr (.inr (fun _ => none))))))]) H1 → va_D A (ws ++ [(q, .inl (c0, N', .inr (.inr (.inr (.inr (fun _ => none))))))]) → va_S A H0 H1 locs →
      W p l e R s m args below meth c H1 locs (cells + 1) (slots + N') Q (F0 m (pc + 3) ls (.ref q :: rest))) : W p l e R s m args below meth c H locs cells slots Q (F0 m pc ls (.int n :: rest)) := by
  refine va_newq hexec hb hown hclink hover hK hP hD hS hA hn hN hbytes hcells hslots hdg (fun q cA H1 hK1 hP1 hD1 hS1 => ?_)
  have e1 : cA = c0 := ps_RA_inj (hK1.2 tys.length (cA, .object C) (by simp)).2 (hK.2 t0 _ ht0).2
  subst e1
  exact kk q H1 hP1 hD1 hS1
/-- a constructor runs on the cell that was made last -/
theorem ps_ctor {mc ms q : Nat} {fs : List Value} {ww : (Nat → Nat) → va_W} (S : CallFix p m c cc nL s args Ts own) (hM : Met l y wsy rm (ps_Cc D cl tys ci fs q H.size) (ps_Cq D cl q H.size ww) mc ms (ps_A q H.size)) (cw : CallB R s args own index y bytes maxL none wsy rm mc ms 0 ∧ y.name = "<init>" ∧ (Cond.instanceMethod y).before args s = true)
    (hK : va_K D cl tys s) (hP : va_P D cl (w0 ++ [(q, .inr (ci, fs))]) H) (hD : va_D A (w0 ++ [(q, .inr (ci, fs))])) (hS : va_S A H0 H locs) (hA : ∀ q, H0.size ≤ q → A q) (hsize : ls.size = nL) (hW : (rest.map fun v => v.category).sum ≤ 8)
    (hdg : decode cc pc = .ok (.invokespecial index, 3)) (hf : cells + mc ≤ R.cells ∧ slots + ms ≤ R.slots)
    (kk : ∀ (g : Nat → Nat) (H1 : Heap) (locs1 : List Loc), g 0 = q → va_P D cl (w0 ++ ww g) H1 → va_D A (w0 ++ ww g) → va_S A H0 H1 locs1 → W p l e R s m args below meth c H1 locs1 (cells + mc) (slots + ms) Q (F0 m (pc + 3) ls rest)) : W p l e R s m args below meth c H locs cells slots Q (F0 m pc ls (.ref q :: rest)) := by
  have hl : (w0 ++ [(q, .inr (ci, fs))])[w0.length]? = some (q, .inr (ci, fs)) := by simp
  have hPq : va_P D cl [(q, .inr (ci, fs))] H := fun k x hx => by
    have z1 : k < 1 := (List.getElem?_eq_some_iff.mp hx).1
    rw [show k = 0 by omega] at hx
    cases hx
    exact hP w0.length _ hl
  have hF : ∀ x, ps_A q H.size x → A x := fun x hx => by
    rcases hx with rfl | hx
    · exact hD.2 w0.length _ hl
    · exact hA x (Nat.le_trans hS.1 hx)
  have hw : ∀ (k : Nat) (x : Nat × va_E), w0[k]? = some x → ¬ ps_A q H.size x.1 ∧ x.1 < H.size := fun k x hx => by
    have z1 : k < w0.length := (List.getElem?_eq_some_iff.mp hx).1
    have h1 : (w0 ++ [(q, .inr (ci, fs))])[k]? = some x := by rw [List.getElem?_append_left z1]; exact hx
    have h2 := (hP k x h1).lt
    refine ⟨fun h => ?_, h2⟩
    rcases h with h | h
    · have := hD.1 k w0.length _ _ h1 hl h
      omega
    · omega
  refine va_callv (va_runI (As := []) (rest := rest) S hM cw ⟨ps_Cblind _ _ _ _ _ _ _, fun U hU hW => ⟨rfl, by rw [hU], by rw [hU]; exact hPq, va_K.moved hW.alike hK⟩⟩ rfl rfl hsize rfl (lv_room hW) hdg hf) hS (fun x _ h => hF x h) hF (fun g t H1 locs1 ht hvm hg hB hz1 hk1 hS1 => ?_)
  obtain ⟨hP1, hD1⟩ := hB
  rw [ht] at hP1
  refine kk g H1 locs1 hg ?_ ?_ hS1
  · refine va_P.app (va_P.kept (ws := w0) (H := H) (fun k x hx => ?_) (fun k x hx => hk1 x.1 (hw k x hx).2 (hw k x hx).1)) hP1
    have z1 : k < w0.length := (List.getElem?_eq_some_iff.mp hx).1
    exact hP k x (by rw [List.getElem?_append_left z1]; exact hx)
  · refine va_D.app ⟨fun i j p q h1 h2 h3 => ?_, fun k x hx => ?_⟩ (hD1.weaken (fun k x _ h => hF _ h)) (fun i j x z h1 h2 h3 => ?_)
    · have z1 : i < w0.length := (List.getElem?_eq_some_iff.mp h1).1
      have z2 : j < w0.length := (List.getElem?_eq_some_iff.mp h2).1
      exact hD.1 i j p q (by rw [List.getElem?_append_left z1]; exact h1) (by rw [List.getElem?_append_left z2]; exact h2) h3
    · have z1 : k < w0.length := (List.getElem?_eq_some_iff.mp hx).1
      exact hD.2 k x (by rw [List.getElem?_append_left z1]; exact hx)
    · exact (hw i x h1).1 (by rw [h3]; exact hD1.2 j z h2)
end PsCtor
/-- the array of things, as a function of its place -/
theorem ps_Pq {D : va_G} {cl : List vw_C} {ws : va_W} {H : Heap} {k a n : Nat} {cA : ClassId} {f g : Nat → Option Nat} (hP : va_P D cl ws H) (hk : ws[k]? = some (a, .inl (cA, n, .inr (.inr (.inr (.inr f)))))) (h : ∀ i, i < n → f i = g i) : va_P D cl (ws.set k (a, .inl (cA, n, .inr (.inr (.inr (.inr g)))))) H := by
  intro j q hj
  rw [List.getElem?_set] at hj
  split at hj
  · split at hj
    · cases hj
      have := hP k _ hk
      show H[a]? = some (vp_cell _ _)
      rw [show H[a]? = some (vp_cell cA (n, .inr (.inr (.inr (.inr f))))) from this]
      rw [vp_cell_q, vp_cell_q]
      congr 1
      unfold arrV
      have e1 : (fun j : Fin n => va_rf (f j.val)) = (fun j : Fin n => va_rf (g j.val)) := funext (fun j => by rw [h j.val j.isLt])
      rw [e1]
    · cases hj
  · exact hP j q hj
theorem ps_Dset {A : Nat → Prop} {ws : va_W} {k a : Nat} {e e2 : va_E} (hD : va_D A ws) (hk : ws[k]? = some (a, e)) : va_D A (ws.set k (a, e2)) := hD.set hk
theorem ps_wl_inj {A : Nat → Prop} {n : Nat} {g : Nat → Nat} {E : Nat → va_E} (h : va_D A (ps_wl n g E)) : ps_inj n g ∧ ∀ k, k < n → A (g k) := ⟨fun i j hi hj he => h.1 i j _ _ (ps_wl_get hi) (ps_wl_get hj) he, fun k hk => h.2 k _ (ps_wl_get hk)⟩
theorem ps_gI {y : MethodName} {b : ByteArray} {n : Nat} {r : Option FieldType} (h5 : Cond.code y b n r ∈ ps_tb) : GoodIn ps_tb (Cond.code y b n r :: ps_tb) := by
  intro w hw
  rcases List.mem_cons.mp hw with rfl | h
  · exact ps_tb_ok h5
  · exact ps_tb_ok h
